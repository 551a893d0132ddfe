set_option maxRecDepth 100000 in
theorem q_X12_asked_0 (S SN : SX) (n : Nat) (x1 : Int) (x2 : Int) (A : AH)  : go true 0 S SN pb_X12_asked (n + 2) 0 [vR 21 190 0, vI x1, vI x2, vU, vU, vU, vU, vU] [] A =
    cI (S 195 [vR 21 190 0] A) fun r2 A1 =>
    cI (S 149 [vL x2, vL 0, vL (w32 ((bshl 1 r2) - 1))] A1) fun r4 A3 =>
    if r4 = 0 then some (some (vI (-1)), A3) else
    go true 0 S SN pb_X12_asked (n + 0) 33 [vR 21 190 0, vI x1, vI x2, vI (gi A3 237 2), vI 0, vI 0, vU, vU] [] A3 := rfl

set_option maxRecDepth 100000 in
theorem q_X12_asked_33 (S SN : SX) (n : Nat) (x1 : Int) (x2 : Int) (x3 : Int) (x4 : Int) (x5 : Int) (u6 : AV) (u7 : AV) (A : AH)  : go true 0 S SN pb_X12_asked (n + 2) 33 [vR 21 190 0, vI x1, vI x2, vI x3, vI x4, vI x5, u6, u7] [] A =
    cI (S 197 [vR 21 190 0] A) fun r2 A1 =>
    if x5 < r2 then
      go true 0 S SN pb_X12_asked (n + 1) 50 [vR 21 190 0, vI x1, vI x2, vI x3, vI x4, vI x5, u6, u7] [] (wi A1 237 2 x5)
    else
    some (some (vI x4), wi A1 237 2 x3) := rfl

set_option maxRecDepth 100000 in
theorem q_X12_asked_50 (S SN : SX) (n : Nat) (x1 : Int) (x2 : Int) (x3 : Int) (x4 : Int) (x5 : Int) (u6 : AV) (u7 : AV) (A : AH)  : go true 0 S SN pb_X12_asked (n + 1) 50 [vR 21 190 0, vI x1, vI x2, vI x3, vI x4, vI x5, u6, u7] [] A =
    go true 0 S SN pb_X12_asked (n + 0) 56 [vR 21 190 0, vI x1, vI x2, vI x3, vI x4, vI x5, vI 0, vI 0] [] A := rfl

set_option maxRecDepth 100000 in
theorem q_X12_asked_56 (S SN : SX) (n : Nat) (x1 : Int) (x2 : Int) (x3 : Int) (x4 : Int) (x5 : Int) (x6 : Int) (x7 : Int) (A : AH)  : go true 0 S SN pb_X12_asked (n + 2) 56 [vR 21 190 0, vI x1, vI x2, vI x3, vI x4, vI x5, vI x6, vI x7] [] A =
    if x7 < 16 then
      cI (S 200 [vR 21 190 0, vI x7] A) fun r2 A1 =>
      if r2 = 0 then
        go true 0 S SN pb_X12_asked (n + 1) 107 [vR 21 190 0, vI x1, vI x2, vI x3, vI x4, vI x5, vI x6, vI x7] [] A1
      else
      cI (S 202 [vR 21 190 0, vI x7] A1) fun r4 A3 =>
      if r4 = 0 then
        if (band (bshr x2 x7) 1) = 1 then
          go true 0 S SN pb_X12_asked (n + 1) 101 [vR 21 190 0, vI x1, vI x2, vI x3, vI x4, vI x5, vI x6, vI x7] [vI 1, vI x7, vR 21 190 0, vI x6] A3
        else
        go true 0 S SN pb_X12_asked (n + 1) 100 [vR 21 190 0, vI x1, vI x2, vI x3, vI x4, vI x5, vI x6, vI x7] [vI x7, vR 21 190 0, vI x6] A3
      else
      go true 0 S SN pb_X12_asked (n + 1) 100 [vR 21 190 0, vI x1, vI x2, vI x3, vI x4, vI x5, vI x6, vI x7] [vI x7, vR 21 190 0, vI x6] A3
    else
    if x6 = x1 then
      go true 0 S SN pb_X12_asked (n + 0) 128 [vR 21 190 0, vI x1, vI x2, vI x3, vI (bor x4 (bshl 1 x5)), vI x5, vI x6, vI x7] [] A
    else
    go true 0 S SN pb_X12_asked (n + 0) 128 [vR 21 190 0, vI x1, vI x2, vI x3, vI x4, vI x5, vI x6, vI x7] [] A := rfl

set_option maxRecDepth 100000 in
theorem q_X12_asked_100 (S SN : SX) (n : Nat) (x1 : Int) (x2 : Int) (x3 : Int) (x4 : Int) (x5 : Int) (x6 : Int) (x7 : Int) (sx0 : Int) (sx2 : Int) (A : AH)  : go true 0 S SN pb_X12_asked (n + 1) 100 [vR 21 190 0, vI x1, vI x2, vI x3, vI x4, vI x5, vI x6, vI x7] [vI sx0, vR 21 190 0, vI sx2] A =
    go true 0 S SN pb_X12_asked (n + 0) 101 [vR 21 190 0, vI x1, vI x2, vI x3, vI x4, vI x5, vI x6, vI x7] [vI 0, vI sx0, vR 21 190 0, vI sx2] A := rfl

set_option maxRecDepth 100000 in
theorem q_X12_asked_101 (S SN : SX) (n : Nat) (x1 : Int) (x2 : Int) (x3 : Int) (x4 : Int) (x5 : Int) (x6 : Int) (x7 : Int) (sx0 : Int) (sx1 : Int) (sx3 : Int) (A : AH)  : go true 0 S SN pb_X12_asked (n + 1) 101 [vR 21 190 0, vI x1, vI x2, vI x3, vI x4, vI x5, vI x6, vI x7] [vI sx0, vI sx1, vR 21 190 0, vI sx3] A =
    cI (S 215 [vR 21 190 0, vI sx1, vI sx0] A) fun r2 A1 =>
    go true 0 S SN pb_X12_asked (n + 0) 107 [vR 21 190 0, vI x1, vI x2, vI x3, vI x4, vI x5, vI (w32 (sx3 + r2)), vI x7] [] A1 := rfl

set_option maxRecDepth 100000 in
theorem q_X12_asked_107 (S SN : SX) (n : Nat) (x1 : Int) (x2 : Int) (x3 : Int) (x4 : Int) (x5 : Int) (x6 : Int) (x7 : Int) (A : AH)  : go true 0 S SN pb_X12_asked (n + 1) 107 [vR 21 190 0, vI x1, vI x2, vI x3, vI x4, vI x5, vI x6, vI x7] [] A =
    go true 0 S SN pb_X12_asked (n + 0) 56 [vR 21 190 0, vI x1, vI x2, vI x3, vI x4, vI x5, vI x6, vI (w32 (x7 + 1))] [] A := rfl

set_option maxRecDepth 100000 in
theorem q_X12_asked_128 (S SN : SX) (n : Nat) (x1 : Int) (x2 : Int) (x3 : Int) (x4 : Int) (x5 : Int) (x6 : Int) (x7 : Int) (A : AH)  : go true 0 S SN pb_X12_asked (n + 1) 128 [vR 21 190 0, vI x1, vI x2, vI x3, vI x4, vI x5, vI x6, vI x7] [] A =
    go true 0 S SN pb_X12_asked (n + 0) 33 [vR 21 190 0, vI x1, vI x2, vI x3, vI x4, vI (w32 (x5 + 1)), vI x6, vI x7] [] A := rfl

set_option maxRecDepth 100000 in
theorem q_X12_loudest_0 (S SN : SX) (n : Nat) (x1 : Int) (A : AH)  : go true 0 S SN pb_X12_loudest (n + 2) 0 [vR 21 190 0, vI x1, vU, vU, vU, vU, vU, vU, vU, vU] [] A =
    cI (S 229 [vR 21 190 0, vI x1, vI 1, vI 200] A) fun r2 A1 =>
    if r2 = 0 then some (some (vI (-1)), A1) else
    cL (S 228 [vR 21 190 0, vI x1] A1) fun r4 A3 =>
    go true 0 S SN pb_X12_loudest (n + 0) 31 [vR 21 190 0, vI x1, vL r4, vS, vI (-1), vL (-1), vS, vI 0, vU, vU] [] A3 := rfl

set_option maxRecDepth 100000 in
theorem q_X12_loudest_31 (S SN : SX) (n : Nat) (x1 : Int) (y2 : Int) (x4 : Int) (y5 : Int) (x7 : Int) (u8 : AV) (u9 : AV) (A : AH)  : go true 0 S SN pb_X12_loudest (n + 2) 31 [vR 21 190 0, vI x1, vL y2, vS, vI x4, vL y5, vS, vI x7, u8, u9] [] A =
    if x7 < (gi A 224 9) then
      go true 0 S SN pb_X12_loudest (n + 1) 49 [vR 21 190 0, vI x1, vL y2, vS, vI x4, vL y5, vS, vI x7, u8, u9] [] (wi A 190 65 x7)
    else
    some (some (vI x4), wi A 190 65 (-1)) := rfl

set_option maxRecDepth 100000 in
theorem q_X12_loudest_49 (S SN : SX) (n : Nat) (x1 : Int) (y2 : Int) (x4 : Int) (y5 : Int) (x7 : Int) (u8 : AV) (u9 : AV) (A : AH)  : go true 0 S SN pb_X12_loudest (n + 1) 49 [vR 21 190 0, vI x1, vL y2, vS, vI x4, vL y5, vS, vI x7, u8, u9] [] A =
    cL (S 228 [vR 21 190 0, vI x1] A) fun r2 A1 =>
    if (lcp (w64 (r2 - y2)) 0) < 0 then
      go true 0 S SN pb_X12_loudest (n + 0) 70 [vR 21 190 0, vI x1, vL y2, vS, vI x4, vL y5, vS, vI x7, vL (w64 (-(w64 (r2 - y2)))), vS] [] A1
    else
    go true 0 S SN pb_X12_loudest (n + 0) 70 [vR 21 190 0, vI x1, vL y2, vS, vI x4, vL y5, vS, vI x7, vL (w64 (r2 - y2)), vS] [] A1 := rfl

set_option maxRecDepth 100000 in
theorem q_X12_loudest_70 (S SN : SX) (n : Nat) (x1 : Int) (y2 : Int) (x4 : Int) (y5 : Int) (x7 : Int) (y8 : Int) (A : AH)  : go true 0 S SN pb_X12_loudest (n + 2) 70 [vR 21 190 0, vI x1, vL y2, vS, vI x4, vL y5, vS, vI x7, vL y8, vS] [] A =
    if 0 < (lcp y8 y5) then
      go true 0 S SN pb_X12_loudest (n + 0) 89 [vR 21 190 0, vI x1, vL y2, vS, vI x7, vL y8, vS, vI x7, vL y8, vS] [] A
    else
    go true 0 S SN pb_X12_loudest (n + 1) 89 [vR 21 190 0, vI x1, vL y2, vS, vI x4, vL y5, vS, vI x7, vL y8, vS] [] A := rfl

set_option maxRecDepth 100000 in
theorem q_X12_loudest_89 (S SN : SX) (n : Nat) (x1 : Int) (y2 : Int) (x4 : Int) (y5 : Int) (x7 : Int) (y8 : Int) (A : AH)  : go true 0 S SN pb_X12_loudest (n + 1) 89 [vR 21 190 0, vI x1, vL y2, vS, vI x4, vL y5, vS, vI x7, vL y8, vS] [] A =
    go true 0 S SN pb_X12_loudest (n + 0) 31 [vR 21 190 0, vI x1, vL y2, vS, vI x4, vL y5, vS, vI (w32 (x7 + 1)), vL y8, vS] [] A := rfl

set_option maxRecDepth 100000 in
theorem q_X12_keeps_0 (S SN : SX) (n : Nat)  (A : AH)  : go true 3 S SN pb_X12_keeps (n + 1) 0 [vR 21 190 0, vU] [] A =
    go true 3 S SN pb_X12_keeps (n + 0) 13 [vR 21 190 0, vU] [] (wi A 190 74 ((w32 ((gi A 190 74) + 1)).tmod 20)) := rfl

set_option maxRecDepth 100000 in
theorem q_X12_keeps_13 (S SN : SX) (n : Nat) (u1 : AV) (A : AH)  : go true 3 S SN pb_X12_keeps (n + 1) 13 [vR 21 190 0, u1] [] A =
    go true 3 S SN pb_X12_keeps (n + 0) 15 [vR 21 190 0, vI 0] [] A := rfl

set_option maxRecDepth 100000 in
theorem q_X12_keeps_15 (S SN : SX) (n : Nat) (x1 : Int) (A : AH)  : go true 3 S SN pb_X12_keeps (n + 3) 15 [vR 21 190 0, vI x1] [] A =
    if x1 < 146 then
      if (0 : Int) ≤ x1 ∧ x1 < 146 then
        if (0 : Int) ≤ w32 ((w32 (146 * (gi A 190 74))) + x1) ∧ w32 ((w32 (146 * (gi A 190 74))) + x1) < 2920 then
          go true 3 S SN pb_X12_keeps (n + 2) 43 [vR 21 190 0, vI x1] [] (wi A 243 ((w32 ((w32 (146 * (gi A 190 74))) + x1)).toNat) (gi A 237 x1.toNat))
        else none
      else none
    else
    if (gi A 190 73) < 20 then
      some (none, wi A 190 73 (w32 ((gi A 190 73) + 1)))
    else
    some (none, A) := rfl

set_option maxRecDepth 100000 in
theorem q_X12_keeps_43 (S SN : SX) (n : Nat) (x1 : Int) (A : AH)  : go true 3 S SN pb_X12_keeps (n + 1) 43 [vR 21 190 0, vI x1] [] A =
    go true 3 S SN pb_X12_keeps (n + 0) 15 [vR 21 190 0, vI (w32 (x1 + 1))] [] A := rfl

set_option maxRecDepth 100000 in
theorem q_X12_undo_0 (S SN : SX) (n : Nat)  (A : AH)  : go true 2 S SN pb_X12_undo (n + 2) 0 [vR 21 190 0, vU] [] A =
    if (gi A 190 73) = 0 then
      go true 2 S SN pb_X12_undo (n + 1) 17 [vR 21 190 0, vU] [] (wi A 192 4 (w32 ((gi A 192 4) + 1)))
    else
    go true 2 S SN pb_X12_undo (n + 0) 21 [vR 21 190 0, vI 0] [] A := rfl

set_option maxRecDepth 100000 in
theorem q_X12_undo_17 (S SN : SX) (n : Nat) (u1 : AV) (A : AH)  : go true 2 S SN pb_X12_undo (n + 1) 17 [vR 21 190 0, u1] [] A =
    some (some (vI 0), A) := rfl

set_option maxRecDepth 100000 in
theorem q_X12_undo_21 (S SN : SX) (n : Nat) (x1 : Int) (A : AH)  : go true 2 S SN pb_X12_undo (n + 2) 21 [vR 21 190 0, vI x1] [] A =
    if x1 < 146 then
      if (0 : Int) ≤ w32 ((w32 (146 * (gi A 190 74))) + x1) ∧ w32 ((w32 (146 * (gi A 190 74))) + x1) < 2920 then
        if (0 : Int) ≤ x1 ∧ x1 < 146 then
          go true 2 S SN pb_X12_undo (n + 1) 49 [vR 21 190 0, vI x1] [] (wi A 237 x1.toNat (gi A 243 ((w32 ((w32 (146 * (gi A 190 74))) + x1)).toNat)))
        else none
      else none
    else
    go true 2 S SN pb_X12_undo (n + 0) 71 [vR 21 190 0, vI x1] [] (wi A 190 74 ((w32 ((w32 ((gi A 190 74) + 20)) - 1)).tmod 20)) := rfl

set_option maxRecDepth 100000 in
theorem q_X12_undo_49 (S SN : SX) (n : Nat) (x1 : Int) (A : AH)  : go true 2 S SN pb_X12_undo (n + 1) 49 [vR 21 190 0, vI x1] [] A =
    go true 2 S SN pb_X12_undo (n + 0) 21 [vR 21 190 0, vI (w32 (x1 + 1))] [] A := rfl

set_option maxRecDepth 100000 in
theorem q_X12_undo_71 (S SN : SX) (n : Nat) (x1 : Int) (A : AH)  : go true 2 S SN pb_X12_undo (n + 1) 71 [vR 21 190 0, vI x1] [] A =
    go true 2 S SN pb_X12_undo (n + 0) 81 [vR 21 190 0, vI x1] [] (wi A 190 73 (w32 ((gi A 190 73) - 1))) := rfl

set_option maxRecDepth 100000 in
theorem q_X12_undo_81 (S SN : SX) (n : Nat) (x1 : Int) (A : AH)  : go true 2 S SN pb_X12_undo (n + 1) 81 [vR 21 190 0, vI x1] [] A =
    some (some (vI 1), A) := rfl

set_option maxRecDepth 100000 in
theorem q_X12_seed_0 (S SN : SX) (n : Nat) (x1 : Int) (A : AH)  : go true 2 S SN pb_X12_seed (n + 2) 0 [vR 21 190 0, vI x1] [] A =
    if x1 < 0 then
      go true 2 S SN pb_X12_seed (n + 1) 14 [vR 21 190 0, vI x1] [] (wi A 192 5 (w32 ((gi A 192 5) + 1)))
    else
    some (some (vI 1), wi A 190 75 x1) := rfl

set_option maxRecDepth 100000 in
theorem q_X12_seed_14 (S SN : SX) (n : Nat) (x1 : Int) (A : AH)  : go true 2 S SN pb_X12_seed (n + 1) 14 [vR 21 190 0, vI x1] [] A =
    some (some (vI 0), A) := rfl

set_option maxRecDepth 100000 in
theorem q_X12_drawOf_0 (S SN : SX) (n : Nat) (x1 : Int) (A : AH)  : go true 0 S SN pb_X12_drawOf (n + 1) 0 [vR 21 190 0, vI x1] [] A =
    go true 0 S SN pb_X12_drawOf (n + 0) 20 [vR 21 190 0, vI x1] [] (wi A 190 75 ((w64 ((w64 (1103515245 * (gi A 190 75))) + 12345)).tmod 2147483648)) := rfl

set_option maxRecDepth 100000 in
theorem q_X12_drawOf_20 (S SN : SX) (n : Nat) (x1 : Int) (A : AH)  : go true 0 S SN pb_X12_drawOf (n + 1) 20 [vR 21 190 0, vI x1] [] A =
    if x1 = 0 then none else
    some (some (vI (w32 ((w64 ((gi A 190 75).tdiv 64)).tmod x1))), A) := rfl

set_option maxRecDepth 100000 in
theorem q_X12_isKept_0 (S SN : SX) (n : Nat) (x1 : Int) (x2 : Int) (A : AH)  : go true 3 S SN pb_X12_isKept (n + 2) 0 [vR 21 190 0, vI x1, vI x2, vU] [] A =
    if (gi A 237 25) = 40 then
      go true 3 S SN pb_X12_isKept (n + 1) 15 [vR 21 190 0, vI x1, vI x2, vI 26] [] A
    else
    go true 3 S SN pb_X12_isKept (n + 0) 56 [vR 21 190 0, vI x1, vI x2, vU] [] (wi A 237 25 (w32 ((gi A 237 25) + 1))) := rfl

set_option maxRecDepth 100000 in
theorem q_X12_isKept_15 (S SN : SX) (n : Nat) (x1 : Int) (x2 : Int) (x3 : Int) (A : AH)  : go true 3 S SN pb_X12_isKept (n + 2) 15 [vR 21 190 0, vI x1, vI x2, vI x3] [] A =
    if x3 < 143 then
      if (0 : Int) ≤ w32 (x3 + 3) ∧ w32 (x3 + 3) < 146 then
        if (0 : Int) ≤ x3 ∧ x3 < 146 then
          go true 3 S SN pb_X12_isKept (n + 1) 36 [vR 21 190 0, vI x1, vI x2, vI x3] [] (wi A 237 x3.toNat (gi A 237 ((w32 (x3 + 3)).toNat)))
        else none
      else none
    else
    go true 3 S SN pb_X12_isKept (n + 0) 56 [vR 21 190 0, vI x1, vI x2, vI x3] [] A := rfl

set_option maxRecDepth 100000 in
theorem q_X12_isKept_36 (S SN : SX) (n : Nat) (x1 : Int) (x2 : Int) (x3 : Int) (A : AH)  : go true 3 S SN pb_X12_isKept (n + 1) 36 [vR 21 190 0, vI x1, vI x2, vI x3] [] A =
    go true 3 S SN pb_X12_isKept (n + 0) 15 [vR 21 190 0, vI x1, vI x2, vI (w32 (x3 + 1))] [] A := rfl

set_option maxRecDepth 100000 in
theorem q_X12_isKept_56 (S SN : SX) (n : Nat) (x1 : Int) (x2 : Int) (u3 : AV) (A : AH)  : go true 3 S SN pb_X12_isKept (n + 1) 56 [vR 21 190 0, vI x1, vI x2, u3] [] A =
    if (0 : Int) ≤ w32 ((w32 (26 + (w32 (3 * (gi A 237 25))))) - 3) ∧ w32 ((w32 (26 + (w32 (3 * (gi A 237 25))))) - 3) < 146 then
      go true 3 S SN pb_X12_isKept (n + 0) 83 [vR 21 190 0, vI x1, vI x2, vI (w32 ((w32 (26 + (w32 (3 * (gi A 237 25))))) - 3))] [] (wi A 237 ((w32 ((w32 (26 + (w32 (3 * (gi A 237 25))))) - 3)).toNat) (gi A 237 0))
    else none := rfl

set_option maxRecDepth 100000 in
theorem q_X12_isKept_83 (S SN : SX) (n : Nat) (x1 : Int) (x2 : Int) (x3 : Int) (A : AH)  : go true 3 S SN pb_X12_isKept (n + 1) 83 [vR 21 190 0, vI x1, vI x2, vI x3] [] A =
    if (0 : Int) ≤ w32 (x3 + 1) ∧ w32 (x3 + 1) < 146 then
      go true 3 S SN pb_X12_isKept (n + 0) 92 [vR 21 190 0, vI x1, vI x2, vI x3] [] (wi A 237 ((w32 (x3 + 1)).toNat) x1)
    else none := rfl

set_option maxRecDepth 100000 in
theorem q_X12_isKept_92 (S SN : SX) (n : Nat) (x1 : Int) (x2 : Int) (x3 : Int) (A : AH)  : go true 3 S SN pb_X12_isKept (n + 1) 92 [vR 21 190 0, vI x1, vI x2, vI x3] [] A =
    if (0 : Int) ≤ w32 (x3 + 2) ∧ w32 (x3 + 2) < 146 then
      go true 3 S SN pb_X12_isKept (n + 0) 101 [vR 21 190 0, vI x1, vI x2, vI x3] [] (wi A 237 ((w32 (x3 + 2)).toNat) x2)
    else none := rfl

set_option maxRecDepth 100000 in
theorem q_X12_isKept_101 (S SN : SX) (n : Nat) (x1 : Int) (x2 : Int) (x3 : Int) (A : AH)  : go true 3 S SN pb_X12_isKept (n + 1) 101 [vR 21 190 0, vI x1, vI x2, vI x3] [] A =
    some (none, A) := rfl

set_option maxRecDepth 100000 in
theorem q_X12_minuteGoes_0 (S SN : SX) (n : Nat)  (A : AH)  : go true 0 S SN pb_X12_minuteGoes (n + 1) 0 [vR 21 190 0, vU, vU, vU, vU] [] A =
    go true 0 S SN pb_X12_minuteGoes (n + 0) 11 [vR 21 190 0, vI (gi A 237 1), vI 0, vI 0, vU] [] A := rfl

set_option maxRecDepth 100000 in
theorem q_X12_minuteGoes_11 (S SN : SX) (n : Nat) (x1 : Int) (x2 : Int) (x3 : Int) (u4 : AV) (A : AH)  : go true 0 S SN pb_X12_minuteGoes (n + 4) 11 [vR 21 190 0, vI x1, vI x2, vI x3, u4] [] A =
    if x3 < 16 then
      cI (S 200 [vR 21 190 0, vI x3] A) fun r2 A1 =>
      if r2 = 0 then
        go true 0 S SN pb_X12_minuteGoes (n + 3) 88 [vR 21 190 0, vI x1, vI x2, vI x3, u4] [] A1
      else
      cI (S 204 [vR 21 190 0, vI x3] A1) fun r4 A3 =>
      if 0 < r4 then
        cI (S 253 [vR 21 190 0, vI 100] A3) fun r6 A5 =>
        cI (S 204 [vR 21 190 0, vI x3] A5) fun r8 A7 =>
        if r6 < r8 then
          go true 0 S SN pb_X12_minuteGoes (n + 2) 55 [vR 21 190 0, vI x1, vI x2, vI x3, u4] [vI 1] A7
        else
        go true 0 S SN pb_X12_minuteGoes (n + 2) 54 [vR 21 190 0, vI x1, vI x2, vI x3, u4] [] A7
      else
      go true 0 S SN pb_X12_minuteGoes (n + 2) 54 [vR 21 190 0, vI x1, vI x2, vI x3, u4] [] A3
    else
    if 99999 < x1 then
      go true 0 S SN pb_X12_minuteGoes (n + 2) 126 [vR 21 190 0, vI x1, vI x2, vI x3, u4] [vI 99999, vI 1, vR 30 237 146] A
    else
    if x1 < (-99999) then
      go true 0 S SN pb_X12_minuteGoes (n + 1) 126 [vR 21 190 0, vI x1, vI x2, vI x3, u4] [vI (-99999), vI 1, vR 30 237 146] A
    else
    go true 0 S SN pb_X12_minuteGoes (n + 0) 126 [vR 21 190 0, vI x1, vI x2, vI x3, u4] [vI x1, vI 1, vR 30 237 146] A := rfl

set_option maxRecDepth 100000 in
theorem q_X12_minuteGoes_54 (S SN : SX) (n : Nat) (x1 : Int) (x2 : Int) (x3 : Int) (u4 : AV) (A : AH)  : go true 0 S SN pb_X12_minuteGoes (n + 1) 54 [vR 21 190 0, vI x1, vI x2, vI x3, u4] [] A =
    go true 0 S SN pb_X12_minuteGoes (n + 0) 55 [vR 21 190 0, vI x1, vI x2, vI x3, u4] [vI 0] A := rfl

set_option maxRecDepth 100000 in
theorem q_X12_minuteGoes_55 (S SN : SX) (n : Nat) (x1 : Int) (x2 : Int) (x3 : Int) (u4 : AV) (sx0 : Int) (A : AH)  : go true 0 S SN pb_X12_minuteGoes (n + 2) 55 [vR 21 190 0, vI x1, vI x2, vI x3, u4] [vI sx0] A =
    cI (S 215 [vR 21 190 0, vI x3, vI sx0] A) fun r2 A1 =>
    if sx0 = 0 then
      go true 0 S SN pb_X12_minuteGoes (n + 1) 88 [vR 21 190 0, vI (w32 (x1 + r2)), vI x2, vI x3, vI sx0] [] A1
    else
    cI (S 213 [vR 21 190 0, vI x3] A1) fun r4 A3 =>
    cV (S 254 [vR 21 190 0, vI x3, vI r4] A3) fun A5 =>
    go true 0 S SN pb_X12_minuteGoes (n + 0) 88 [vR 21 190 0, vI (w32 (x1 + r2)), vI (w32 (x2 + 1)), vI x3, vI sx0] [] A5 := rfl

set_option maxRecDepth 100000 in
theorem q_X12_minuteGoes_88 (S SN : SX) (n : Nat) (x1 : Int) (x2 : Int) (x3 : Int) (u4 : AV) (A : AH)  : go true 0 S SN pb_X12_minuteGoes (n + 1) 88 [vR 21 190 0, vI x1, vI x2, vI x3, u4] [] A =
    go true 0 S SN pb_X12_minuteGoes (n + 0) 11 [vR 21 190 0, vI x1, vI x2, vI (w32 (x3 + 1)), u4] [] A := rfl

set_option maxRecDepth 100000 in
theorem q_X12_minuteGoes_126 (S SN : SX) (n : Nat) (x1 : Int) (x2 : Int) (x3 : Int) (u4 : AV) (sx0 : Int) (sx1 : Int) (A : AH)  : go true 0 S SN pb_X12_minuteGoes (n + 1) 126 [vR 21 190 0, vI x1, vI x2, vI x3, u4] [vI sx0, vI sx1, vR 30 237 146] A =
    if (0 : Int) ≤ sx1 ∧ sx1 < 146 then
      go true 0 S SN pb_X12_minuteGoes (n + 0) 137 [vR 21 190 0, vI x1, vI x2, vI x3, u4] [] (wi (wi A 237 sx1.toNat sx0) 237 0 (w32 ((gi (wi A 237 sx1.toNat sx0) 237 0) + 1)))
    else none := rfl

set_option maxRecDepth 100000 in
theorem q_X12_minuteGoes_137 (S SN : SX) (n : Nat) (x1 : Int) (x2 : Int) (x3 : Int) (u4 : AV) (A : AH)  : go true 0 S SN pb_X12_minuteGoes (n + 1) 137 [vR 21 190 0, vI x1, vI x2, vI x3, u4] [] A =
    some (some (vI x2), A) := rfl

set_option maxRecDepth 100000 in
theorem q_X12_minutes_0 (S SN : SX) (n : Nat) (x1 : Int) (A : AH)  : go true 0 S SN pb_X12_minutes (n + 2) 0 [vR 21 190 0, vI x1, vU, vU] [] A =
    if (gi A 190 53) = 0 then
      go true 0 S SN pb_X12_minutes (n + 1) 18 [vR 21 190 0, vI x1, vU, vU] [] A
    else
    cI (S 229 [vR 21 190 0, vI x1, vI 1, vI 100] A) fun r2 A1 =>
    if r2 = 0 then
      go true 0 S SN pb_X12_minutes (n + 1) 18 [vR 21 190 0, vI x1, vU, vU] [] A1
    else
    cV (S 250 [vR 21 190 0] A1) fun A3 =>
    go true 0 S SN pb_X12_minutes (n + 0) 38 [vR 21 190 0, vI x1, vI 0, vI 0] [] A3 := rfl

set_option maxRecDepth 100000 in
theorem q_X12_minutes_18 (S SN : SX) (n : Nat) (x1 : Int) (u2 : AV) (u3 : AV) (A : AH)  : go true 0 S SN pb_X12_minutes (n + 1) 18 [vR 21 190 0, vI x1, u2, u3] [] A =
    go true 0 S SN pb_X12_minutes (n + 0) 28 [vR 21 190 0, vI x1, u2, u3] [] (wi A 192 2 (w32 ((gi A 192 2) + 1))) := rfl

set_option maxRecDepth 100000 in
theorem q_X12_minutes_28 (S SN : SX) (n : Nat) (x1 : Int) (u2 : AV) (u3 : AV) (A : AH)  : go true 0 S SN pb_X12_minutes (n + 1) 28 [vR 21 190 0, vI x1, u2, u3] [] A =
    some (some (vI (-1)), A) := rfl

set_option maxRecDepth 100000 in
theorem q_X12_minutes_38 (S SN : SX) (n : Nat) (x1 : Int) (x2 : Int) (x3 : Int) (A : AH)  : go true 0 S SN pb_X12_minutes (n + 2) 38 [vR 21 190 0, vI x1, vI x2, vI x3] [] A =
    if x3 < x1 then
      cI (S 255 [vR 21 190 0] A) fun r2 A1 =>
      go true 0 S SN pb_X12_minutes (n + 1) 38 [vR 21 190 0, vI x1, vI (w32 (x2 + r2)), vI (w32 (x3 + 1))] [] A1
    else
    some (some (vI x2), A) := rfl

set_option maxRecDepth 100000 in
theorem q_X12_refuses_0 (S SN : SX) (n : Nat)  (A : AH)  : go true 2 S SN pb_X12_refuses (n + 1) 0 [vR 21 190 0] [] A =
    go true 2 S SN pb_X12_refuses (n + 0) 10 [vR 21 190 0] [] (wi A 192 3 (w32 ((gi A 192 3) + 1))) := rfl

set_option maxRecDepth 100000 in
theorem q_X12_refuses_10 (S SN : SX) (n : Nat)  (A : AH)  : go true 2 S SN pb_X12_refuses (n + 1) 10 [vR 21 190 0] [] A =
    some (some (vI 0), A) := rfl

set_option maxRecDepth 100000 in
theorem q_X12_point_0 (S SN : SX) (n : Nat) (x1 : Int) (A : AH)  : go true 2 S SN pb_X12_point (n + 2) 0 [vR 21 190 0, vI x1] [] A =
    cI (S 197 [vR 21 190 0] A) fun r2 A1 =>
    cI (S 149 [vL x1, vL (-1), vL (w32 (r2 - 1))] A1) fun r4 A3 =>
    if r4 = 0 then
      go true 2 S SN pb_X12_point (n + 1) 28 [vR 21 190 0, vI x1] [] A3
    else
    if (gi A3 237 2) = x1 then
      go true 2 S SN pb_X12_point (n + 1) 28 [vR 21 190 0, vI x1] [] A3
    else
    cV (S 250 [vR 21 190 0] A3) fun A5 =>
    go true 2 S SN pb_X12_point (n + 0) 44 [vR 21 190 0, vI x1] [] (wi A5 237 2 x1) := rfl

set_option maxRecDepth 100000 in
theorem q_X12_point_28 (S SN : SX) (n : Nat) (x1 : Int) (A : AH)  : go true 2 S SN pb_X12_point (n + 1) 28 [vR 21 190 0, vI x1] [] A =
    cI (S 257 [vR 21 190 0] A) fun r2 A1 =>
    if r2 = 0 ∨ r2 = 1 then some (some (vI r2), A1) else
    none := rfl

set_option maxRecDepth 100000 in
theorem q_X12_point_44 (S SN : SX) (n : Nat) (x1 : Int) (A : AH)  : go true 2 S SN pb_X12_point (n + 1) 44 [vR 21 190 0, vI x1] [] A =
    some (some (vI 1), A) := rfl

set_option maxRecDepth 100000 in
theorem q_X12_move_0 (S SN : SX) (n : Nat) (x1 : Int) (x2 : Int) (A : AH)  : go true 2 S SN pb_X12_move (n + 2) 0 [vR 21 190 0, vI x1, vI x2, vU] [] A =
    cI (S 149 [vL x1, vL 0, vL 15] A) fun r2 A1 =>
    if r2 = 0 then
      go true 2 S SN pb_X12_move (n + 1) 37 [vR 21 190 0, vI x1, vI x2, vU] [] A1
    else
    cI (S 200 [vR 21 190 0, vI x1] A1) fun r4 A3 =>
    if r4 = 0 then
      go true 2 S SN pb_X12_move (n + 1) 37 [vR 21 190 0, vI x1, vI x2, vU] [] A3
    else
    cI (S 198 [vR 21 190 0, vI x2] A3) fun r6 A5 =>
    if r6 = 0 then
      go true 2 S SN pb_X12_move (n + 1) 37 [vR 21 190 0, vI x1, vI x2, vU] [] A5
    else
    cI (S 199 [vR 21 190 0, vI x1] A5) fun r8 A7 =>
    if r8 = x2 then
      go true 2 S SN pb_X12_move (n + 1) 37 [vR 21 190 0, vI x1, vI x2, vU] [] A7
    else
    cV (S 250 [vR 21 190 0] A7) fun A9 =>
    cI (S 201 [vR 21 190 0, vI x2] A9) fun r11 A10 =>
    if r11 = (-1) then
      go true 2 S SN pb_X12_move (n + 0) 70 [vR 21 190 0, vI x1, vI x2, vI r11] [] A10
    else
    cI (S 199 [vR 21 190 0, vI x1] A10) fun r13 A12 =>
    if (0 : Int) ≤ w32 (3 + r11) ∧ w32 (3 + r11) < 146 then
      go true 2 S SN pb_X12_move (n + 0) 70 [vR 21 190 0, vI x1, vI x2, vI r11] [] (wi A12 237 ((w32 (3 + r11)).toNat) r13)
    else none := rfl

set_option maxRecDepth 100000 in
theorem q_X12_move_37 (S SN : SX) (n : Nat) (x1 : Int) (x2 : Int) (u3 : AV) (A : AH)  : go true 2 S SN pb_X12_move (n + 1) 37 [vR 21 190 0, vI x1, vI x2, u3] [] A =
    cI (S 257 [vR 21 190 0] A) fun r2 A1 =>
    if r2 = 0 ∨ r2 = 1 then some (some (vI r2), A1) else
    none := rfl

set_option maxRecDepth 100000 in
theorem q_X12_move_70 (S SN : SX) (n : Nat) (x1 : Int) (x2 : Int) (x3 : Int) (A : AH)  : go true 2 S SN pb_X12_move (n + 1) 70 [vR 21 190 0, vI x1, vI x2, vI x3] [] A =
    if (0 : Int) ≤ w32 (3 + x1) ∧ w32 (3 + x1) < 146 then
      go true 2 S SN pb_X12_move (n + 0) 79 [vR 21 190 0, vI x1, vI x2, vI x3] [] (wi A 237 ((w32 (3 + x1)).toNat) x2)
    else none := rfl

set_option maxRecDepth 100000 in
theorem q_X12_move_79 (S SN : SX) (n : Nat) (x1 : Int) (x2 : Int) (x3 : Int) (A : AH)  : go true 2 S SN pb_X12_move (n + 1) 79 [vR 21 190 0, vI x1, vI x2, vI x3] [] A =
    some (some (vI 1), A) := rfl

set_option maxRecDepth 100000 in
theorem q_X12_take_0 (S SN : SX) (n : Nat) (x1 : Int) (x2 : Int) (x3 : Int) (A : AH)  : go true 2 S SN pb_X12_take (n + 2) 0 [vR 21 190 0, vI x1, vI x2, vI x3] [] A =
    cI (S 196 [vR 21 190 0] A) fun r2 A1 =>
    cI (S 149 [vL x1, vL 0, vL (w32 (r2 - 1))] A1) fun r4 A3 =>
    if r4 = 0 then
      go true 2 S SN pb_X12_take (n + 1) 54 [vR 21 190 0, vI x1, vI x2, vI x3] [] A3
    else
    cI (S 200 [vR 21 190 0, vI (w32 (10 + x1))] A3) fun r6 A5 =>
    if r6 = 0 then
      cI (S 149 [vL x2, vL 0, vL 1] A5) fun r8 A7 =>
      if r8 = 0 then
        go true 2 S SN pb_X12_take (n + 1) 54 [vR 21 190 0, vI x1, vI x2, vI x3] [] A7
      else
      cI (S 198 [vR 21 190 0, vI x3] A7) fun r10 A9 =>
      if r10 = 0 then
        go true 2 S SN pb_X12_take (n + 1) 54 [vR 21 190 0, vI x1, vI x2, vI x3] [] A9
      else
      cI (S 201 [vR 21 190 0, vI x3] A9) fun r12 A11 =>
      if r12 = (-1) then
        cV (S 250 [vR 21 190 0] A11) fun A13 =>
        if (0 : Int) ≤ w32 (13 + x1) ∧ w32 (13 + x1) < 146 then
          go true 2 S SN pb_X12_take (n + 0) 73 [vR 21 190 0, vI x1, vI x2, vI x3] [] (wi A13 237 ((w32 (13 + x1)).toNat) x3)
        else none
      else
      go true 2 S SN pb_X12_take (n + 1) 54 [vR 21 190 0, vI x1, vI x2, vI x3] [] A11
    else
    go true 2 S SN pb_X12_take (n + 1) 54 [vR 21 190 0, vI x1, vI x2, vI x3] [] A5 := rfl

set_option maxRecDepth 100000 in
theorem q_X12_take_54 (S SN : SX) (n : Nat) (x1 : Int) (x2 : Int) (x3 : Int) (A : AH)  : go true 2 S SN pb_X12_take (n + 1) 54 [vR 21 190 0, vI x1, vI x2, vI x3] [] A =
    cI (S 257 [vR 21 190 0] A) fun r2 A1 =>
    if r2 = 0 ∨ r2 = 1 then some (some (vI r2), A1) else
    none := rfl

set_option maxRecDepth 100000 in
theorem q_X12_take_73 (S SN : SX) (n : Nat) (x1 : Int) (x2 : Int) (x3 : Int) (A : AH)  : go true 2 S SN pb_X12_take (n + 1) 73 [vR 21 190 0, vI x1, vI x2, vI x3] [] A =
    if (0 : Int) ≤ w32 (19 + x1) ∧ w32 (19 + x1) < 146 then
      go true 2 S SN pb_X12_take (n + 0) 83 [vR 21 190 0, vI x1, vI x2, vI x3] [] (wi A 237 ((w32 (19 + x1)).toNat) x2)
    else none := rfl

set_option maxRecDepth 100000 in
theorem q_X12_take_83 (S SN : SX) (n : Nat) (x1 : Int) (x2 : Int) (x3 : Int) (A : AH)  : go true 2 S SN pb_X12_take (n + 1) 83 [vR 21 190 0, vI x1, vI x2, vI x3] [] A =
    some (some (vI 1), A) := rfl

set_option maxRecDepth 100000 in
theorem q_X12_dismiss_0 (S SN : SX) (n : Nat) (x1 : Int) (A : AH)  : go true 2 S SN pb_X12_dismiss (n + 2) 0 [vR 21 190 0, vI x1] [] A =
    cI (S 196 [vR 21 190 0] A) fun r2 A1 =>
    cI (S 149 [vL x1, vL 0, vL (w32 (r2 - 1))] A1) fun r4 A3 =>
    if r4 = 0 then
      go true 2 S SN pb_X12_dismiss (n + 1) 27 [vR 21 190 0, vI x1] [] A3
    else
    cI (S 200 [vR 21 190 0, vI (w32 (10 + x1))] A3) fun r6 A5 =>
    if r6 = 0 then
      go true 2 S SN pb_X12_dismiss (n + 1) 27 [vR 21 190 0, vI x1] [] A5
    else
    cV (S 250 [vR 21 190 0] A5) fun A7 =>
    if (0 : Int) ≤ w32 (13 + x1) ∧ w32 (13 + x1) < 146 then
      go true 2 S SN pb_X12_dismiss (n + 0) 46 [vR 21 190 0, vI x1] [] (wi A7 237 ((w32 (13 + x1)).toNat) (-1))
    else none := rfl

set_option maxRecDepth 100000 in
theorem q_X12_dismiss_27 (S SN : SX) (n : Nat) (x1 : Int) (A : AH)  : go true 2 S SN pb_X12_dismiss (n + 1) 27 [vR 21 190 0, vI x1] [] A =
    cI (S 257 [vR 21 190 0] A) fun r2 A1 =>
    if r2 = 0 ∨ r2 = 1 then some (some (vI r2), A1) else
    none := rfl

set_option maxRecDepth 100000 in
theorem q_X12_dismiss_46 (S SN : SX) (n : Nat) (x1 : Int) (A : AH)  : go true 2 S SN pb_X12_dismiss (n + 1) 46 [vR 21 190 0, vI x1] [] A =
    if (0 : Int) ≤ w32 (19 + x1) ∧ w32 (19 + x1) < 146 then
      go true 2 S SN pb_X12_dismiss (n + 0) 56 [vR 21 190 0, vI x1] [] (wi A 237 ((w32 (19 + x1)).toNat) 0)
    else none := rfl

set_option maxRecDepth 100000 in
theorem q_X12_dismiss_56 (S SN : SX) (n : Nat) (x1 : Int) (A : AH)  : go true 2 S SN pb_X12_dismiss (n + 1) 56 [vR 21 190 0, vI x1] [] A =
    some (some (vI 1), A) := rfl

set_option maxRecDepth 100000 in
theorem q_X12_qCode_0 (S SN : SX) (n : Nat) (x1 : Int) (A : AH)  : go true 3 S SN pb_X12_qCode (n + 1) 0 [vR 21 190 0, vI x1] [] A =
    if (0 : Int) ≤ gi A 190 100 ∧ gi A 190 100 < 1700 then
      go true 3 S SN pb_X12_qCode (n + 0) 10 [vR 21 190 0, vI x1] [] (wi A 267 ((gi A 190 100).toNat) x1)
    else none := rfl

set_option maxRecDepth 100000 in
theorem q_X12_qCode_10 (S SN : SX) (n : Nat) (x1 : Int) (A : AH)  : go true 3 S SN pb_X12_qCode (n + 1) 10 [vR 21 190 0, vI x1] [] A =
    go true 3 S SN pb_X12_qCode (n + 0) 20 [vR 21 190 0, vI x1] [] (wi A 190 100 (w32 ((gi A 190 100) + 1))) := rfl

set_option maxRecDepth 100000 in
theorem q_X12_qCode_20 (S SN : SX) (n : Nat) (x1 : Int) (A : AH)  : go true 3 S SN pb_X12_qCode (n + 1) 20 [vR 21 190 0, vI x1] [] A =
    some (none, A) := rfl

set_option maxRecDepth 100000 in
theorem q_X12_qOpens_0 (S SN : SX) (n : Nat) (x1 : Int) (x2 : Int) (A : AH)  : go true 3 S SN pb_X12_qOpens (n + 3) 0 [vR 21 190 0, vI x1, vI x2] [] A =
    if (gi A 190 5) = 0 then
      if (gi A 190 103) = 6 then
        cV (S 152 [vR 21 190 0, vI 4, vI x2] A) fun A1 =>
        some (none, A1)
      else
      go true 3 S SN pb_X12_qOpens (n + 0) 34 [vR 21 190 0, vI x1, vI x2] [] (wi A 190 103 (w32 ((gi A 190 103) + 1)))
    else
    some (none, A) := rfl

set_option maxRecDepth 100000 in
theorem q_X12_qOpens_34 (S SN : SX) (n : Nat) (x1 : Int) (x2 : Int) (A : AH)  : go true 3 S SN pb_X12_qOpens (n + 1) 34 [vR 21 190 0, vI x1, vI x2] [] A =
    if (0 : Int) ≤ gi A 190 102 ∧ gi A 190 102 < 1700 then
      go true 3 S SN pb_X12_qOpens (n + 0) 44 [vR 21 190 0, vI x1, vI x2] [] (wi A 268 ((gi A 190 102).toNat) x1)
    else none := rfl

set_option maxRecDepth 100000 in
theorem q_X12_qOpens_44 (S SN : SX) (n : Nat) (x1 : Int) (x2 : Int) (A : AH)  : go true 3 S SN pb_X12_qOpens (n + 1) 44 [vR 21 190 0, vI x1, vI x2] [] A =
    go true 3 S SN pb_X12_qOpens (n + 0) 54 [vR 21 190 0, vI x1, vI x2] [] (wi A 190 102 (w32 ((gi A 190 102) + 1))) := rfl

set_option maxRecDepth 100000 in
theorem q_X12_qOpens_54 (S SN : SX) (n : Nat) (x1 : Int) (x2 : Int) (A : AH)  : go true 3 S SN pb_X12_qOpens (n + 1) 54 [vR 21 190 0, vI x1, vI x2] [] A =
    some (none, A) := rfl

set_option maxRecDepth 100000 in
theorem q_X12_qIsOn_0 (S SN : SX) (n : Nat) (x1 : Int) (A : AH)  : go true 2 S SN pb_X12_qIsOn (n + 2) 0 [vR 21 190 0, vI x1] [] A =
    if 0 < (gi A 190 102) then
      if (0 : Int) ≤ w32 ((gi A 190 102) - 1) ∧ w32 ((gi A 190 102) - 1) < 1700 then
        if (gi A 268 ((w32 ((gi A 190 102) - 1)).toNat)) = x1 then
          some (some (vI 1), A)
        else
        go true 2 S SN pb_X12_qIsOn (n + 1) 26 [vR 21 190 0, vI x1] [] A
      else none
    else
    go true 2 S SN pb_X12_qIsOn (n + 1) 26 [vR 21 190 0, vI x1] [] A := rfl

set_option maxRecDepth 100000 in
theorem q_X12_qIsOn_26 (S SN : SX) (n : Nat) (x1 : Int) (A : AH)  : go true 2 S SN pb_X12_qIsOn (n + 2) 26 [vR 21 190 0, vI x1] [] A =
    some (some (vI 0), A) := rfl

set_option maxRecDepth 100000 in
theorem q_X12_qDrops_0 (S SN : SX) (n : Nat)  (A : AH)  : go true 3 S SN pb_X12_qDrops (n + 1) 0 [vR 21 190 0] [] A =
    go true 3 S SN pb_X12_qDrops (n + 0) 10 [vR 21 190 0] [] (wi A 190 102 (w32 ((gi A 190 102) - 1))) := rfl

set_option maxRecDepth 100000 in
theorem q_X12_qDrops_10 (S SN : SX) (n : Nat)  (A : AH)  : go true 3 S SN pb_X12_qDrops (n + 1) 10 [vR 21 190 0] [] A =
    if (0 : Int) ≤ gi A 190 102 ∧ gi A 190 102 < 1700 then
      cV (S 262 [vR 21 190 0, vI (gi A 268 ((gi A 190 102).toNat))] A) fun A1 =>
      some (none, A1)
    else none := rfl

set_option maxRecDepth 100000 in
theorem q_X12_qIsBracket_0 (S SN : SX) (n : Nat) (x0 : Int) (A : AH)  : go true 2 S SN pb_X12_qIsBracket (n + 2) 0 [vI x0] [] A =
    if x0 < 20 then
      go true 2 S SN pb_X12_qIsBracket (n + 1) 16 [vI x0] [] A
    else
    if 24 < x0 then
      go true 2 S SN pb_X12_qIsBracket (n + 1) 16 [vI x0] [] A
    else
    some (some (vI 1), A) := rfl

set_option maxRecDepth 100000 in
theorem q_X12_qIsBracket_16 (S SN : SX) (n : Nat) (x0 : Int) (A : AH)  : go true 2 S SN pb_X12_qIsBracket (n + 2) 16 [vI x0] [] A =
    some (some (vI 0), A) := rfl

set_option maxRecDepth 100000 in
theorem q_X12_qBracket_0 (S SN : SX) (n : Nat)  (A : AH)  : go true 0 S SN pb_X12_qBracket (n + 1) 0 [vR 21 190 0, vU] [] A =
    go true 0 S SN pb_X12_qBracket (n + 0) 7 [vR 21 190 0, vI (w32 ((gi A 190 102) - 1))] [] A := rfl

set_option maxRecDepth 100000 in
theorem q_X12_qBracket_7 (S SN : SX) (n : Nat) (x1 : Int) (A : AH)  : go true 0 S SN pb_X12_qBracket (n + 1) 7 [vR 21 190 0, vI x1] [] A =
    if x1 < (gi A 190 104) then
      go true 0 S SN pb_X12_qBracket (n + 0) 33 [vR 21 190 0, vI x1] [] A
    else
    if (0 : Int) ≤ x1 ∧ x1 < 1700 then
      cI (S 266 [vI (gi A 268 x1.toNat)] A) fun r2 A1 =>
      if r2 = 0 then
        go true 0 S SN pb_X12_qBracket (n + 0) 7 [vR 21 190 0, vI (w32 (x1 + (-1)))] [] A1
      else
      go true 0 S SN pb_X12_qBracket (n + 0) 33 [vR 21 190 0, vI x1] [] A1
    else none := rfl

set_option maxRecDepth 100000 in
theorem q_X12_qBracket_33 (S SN : SX) (n : Nat) (x1 : Int) (A : AH)  : go true 0 S SN pb_X12_qBracket (n + 3) 33 [vR 21 190 0, vI x1] [] A =
    if x1 < (gi A 190 104) then
      some (some (vI (-1)), A)
    else
    if (0 : Int) ≤ x1 ∧ x1 < 1700 then
      some (some (vI (gi A 268 x1.toNat)), A)
    else none := rfl

set_option maxRecDepth 100000 in
theorem q_X12_qDropsToBracket_0 (S SN : SX) (n : Nat)  (A : AH)  : go true 3 S SN pb_X12_qDropsToBracket (n + 2) 0 [vR 21 190 0] [] A =
    if (gi A 190 104) < (gi A 190 102) then
      if (0 : Int) ≤ w32 ((gi A 190 102) - 1) ∧ w32 ((gi A 190 102) - 1) < 1700 then
        cI (S 266 [vI (gi A 268 ((w32 ((gi A 190 102) - 1)).toNat))] A) fun r2 A1 =>
        if r2 = 0 then
          cV (S 265 [vR 21 190 0] A1) fun A3 =>
          go true 3 S SN pb_X12_qDropsToBracket (n + 1) 0 [vR 21 190 0] [] A3
        else
        some (none, A1)
      else none
    else
    some (none, A) := rfl

set_option maxRecDepth 100000 in
theorem q_X12_qWordHere_0 (S SN : SX) (n : Nat)  (A : AH)  : go true 0 S SN pb_X12_qWordHere (n + 5) 0 [vR 21 190 0] [] A =
    cI (S 156 [vR 21 190 0, vR 32 256 5] A) fun r2 A1 =>
    if r2 = 0 then
      cI (S 156 [vR 21 190 0, vR 32 257 6] A1) fun r4 A3 =>
      if r4 = 0 then
        cI (S 156 [vR 21 190 0, vR 32 258 4] A3) fun r6 A5 =>
        if r6 = 0 then
          cI (S 156 [vR 21 190 0, vR 32 259 5] A5) fun r8 A7 =>
          if r8 = 0 then
            cI (S 156 [vR 21 190 0, vR 32 260 5] A7) fun r10 A9 =>
            if r10 = 0 then
              go true 0 S SN pb_X12_qWordHere (n + 0) 65 [vR 21 190 0] [] A9
            else
            some (some (vI 4), A9)
          else
          some (some (vI 3), A7)
        else
        some (some (vI 2), A5)
      else
      some (some (vI 1), A3)
    else
    some (some (vI 0), A1) := rfl

set_option maxRecDepth 100000 in
theorem q_X12_qWordHere_65 (S SN : SX) (n : Nat)  (A : AH)  : go true 0 S SN pb_X12_qWordHere (n + 5) 65 [vR 21 190 0] [] A =
    cI (S 156 [vR 21 190 0, vR 32 261 5] A) fun r2 A1 =>
    if r2 = 0 then
      cI (S 156 [vR 21 190 0, vR 32 262 4] A1) fun r4 A3 =>
      if r4 = 0 then
        cI (S 156 [vR 21 190 0, vR 32 263 6] A3) fun r6 A5 =>
        if r6 = 0 then
          cI (S 156 [vR 21 190 0, vR 32 264 6] A5) fun r8 A7 =>
          if r8 = 0 then
            cI (S 156 [vR 21 190 0, vR 32 265 5] A7) fun r10 A9 =>
            if r10 = 0 then
              go true 0 S SN pb_X12_qWordHere (n + 0) 134 [vR 21 190 0] [] A9
            else
            some (some (vI 9), A9)
          else
          some (some (vI 8), A7)
        else
        some (some (vI 7), A5)
      else
      some (some (vI 6), A3)
    else
    some (some (vI 5), A1) := rfl

set_option maxRecDepth 100000 in
theorem q_X12_qWordHere_134 (S SN : SX) (n : Nat)  (A : AH)  : go true 0 S SN pb_X12_qWordHere (n + 2) 134 [vR 21 190 0] [] A =
    cI (S 156 [vR 21 190 0, vR 32 266 6] A) fun r2 A1 =>
    if r2 = 0 then
      some (some (vI (-1)), A1)
    else
    some (some (vI 10), A1) := rfl

set_option maxRecDepth 100000 in
theorem q_X12_qWordOf_0 (S SN : SX) (n : Nat) (x1 : Int) (x2 : Int) (A : AH)  : go true 0 S SN pb_X12_qWordOf (n + 2) 0 [vR 21 190 0, vI x1, vI x2, vU] [] A =
    cI (S 269 [vR 21 190 0] A) fun r2 A1 =>
    if r2 < x1 then
      go true 0 S SN pb_X12_qWordOf (n + 1) 19 [vR 21 190 0, vI x1, vI x2, vI r2] [] A1
    else
    if r2 < x2 then
      some (some (vI r2), A1)
    else
    go true 0 S SN pb_X12_qWordOf (n + 1) 19 [vR 21 190 0, vI x1, vI x2, vI r2] [] A1 := rfl

set_option maxRecDepth 100000 in
theorem q_X12_qWordOf_19 (S SN : SX) (n : Nat) (x1 : Int) (x2 : Int) (x3 : Int) (A : AH)  : go true 0 S SN pb_X12_qWordOf (n + 2) 19 [vR 21 190 0, vI x1, vI x2, vI x3] [] A =
    some (some (vI (-1)), A) := rfl

set_option maxRecDepth 100000 in
theorem q_X12_qAsksWord_0 (S SN : SX) (n : Nat) (x1 : Int) (A : AH)  : go true 3 S SN pb_X12_qAsksWord (n + 3) 0 [vR 21 190 0, vI x1] [] A =
    if x1 = 0 then
      cV (S 158 [vR 21 190 0, vR 32 256 5] A) fun A1 =>
      some (none, A1)
    else
    if x1 = 1 then
      cV (S 158 [vR 21 190 0, vR 32 257 6] A) fun A2 =>
      some (none, A2)
    else
    if x1 = 2 then
      cV (S 158 [vR 21 190 0, vR 32 258 4] A) fun A3 =>
      some (none, A3)
    else
    if x1 = 3 then
      cV (S 158 [vR 21 190 0, vR 32 259 5] A) fun A4 =>
      some (none, A4)
    else
    if x1 = 4 then
      cV (S 158 [vR 21 190 0, vR 32 260 5] A) fun A5 =>
      some (none, A5)
    else
    if x1 = 5 then
      cV (S 158 [vR 21 190 0, vR 32 261 5] A) fun A6 =>
      some (none, A6)
    else
    if x1 = 6 then
      cV (S 158 [vR 21 190 0, vR 32 262 4] A) fun A7 =>
      some (none, A7)
    else
    if x1 = 7 then
      cV (S 158 [vR 21 190 0, vR 32 263 6] A) fun A8 =>
      some (none, A8)
    else
    if x1 = 8 then
      cV (S 158 [vR 21 190 0, vR 32 264 6] A) fun A9 =>
      some (none, A9)
    else
    if x1 = 9 then
      cV (S 158 [vR 21 190 0, vR 32 265 5] A) fun A10 =>
      some (none, A10)
    else
    cV (S 158 [vR 21 190 0, vR 32 266 6] A) fun A11 =>
    some (none, A11) := rfl

set_option maxRecDepth 100000 in
theorem q_X12_qEndsPart_0 (S SN : SX) (n : Nat)  (A : AH)  : go true 3 S SN pb_X12_qEndsPart (n + 2) 0 [vR 21 190 0] [] A =
    if (gi A 190 5) = 0 then
      if (gi A 190 104) < (gi A 190 102) then
        if (0 : Int) ≤ w32 ((gi A 190 102) - 1) ∧ w32 ((gi A 190 102) - 1) < 1700 then
          if (gi A 268 ((w32 ((gi A 190 102) - 1)).toNat)) < 60 then
            some (none, A)
          else
          go true 3 S SN pb_X12_qEndsPart (n + 1) 44 [vR 21 190 0] [] (wi A 190 103 (w32 ((gi A 190 103) - 1)))
        else none
      else
      some (none, A)
    else
    some (none, A) := rfl

set_option maxRecDepth 100000 in
theorem q_X12_qEndsPart_44 (S SN : SX) (n : Nat)  (A : AH)  : go true 3 S SN pb_X12_qEndsPart (n + 1) 44 [vR 21 190 0] [] A =
    cV (S 265 [vR 21 190 0] A) fun A1 =>
    go true 3 S SN pb_X12_qEndsPart (n + 0) 0 [vR 21 190 0] [] A1 := rfl

set_option maxRecDepth 100000 in
theorem q_X12_qPartTold_0 (S SN : SX) (n : Nat)  (A : AH)  : go true 3 S SN pb_X12_qPartTold (n + 1) 0 [vR 21 190 0, vU, vU, vU, vU, vU] [] A =
    go true 3 S SN pb_X12_qPartTold (n + 0) 2 [vR 21 190 0, vI 1, vU, vU, vU, vU] [] A := rfl

set_option maxRecDepth 100000 in
theorem q_X12_qPartTold_2 (S SN : SX) (n : Nat) (x1 : Int) (u2 : AV) (u3 : AV) (u4 : AV) (u5 : AV) (A : AH)  : go true 3 S SN pb_X12_qPartTold (n + 2) 2 [vR 21 190 0, vI x1, u2, u3, u4, u5] [] A =
    if x1 = 0 then
      go true 3 S SN pb_X12_qPartTold (n + 1) 186 [vR 21 190 0, vI x1, u2, u3, u4, u5] [] A
    else
    if (gi A 190 5) = 0 then
      cI (S 155 [vR 21 190 0] A) fun r2 A1 =>
      cI (S 270 [vR 21 190 0, vI 10, vI 11] A1) fun r4 A3 =>
      if r2 = 40 then
        cV (S 263 [vR 21 190 0, vI 20, vI (gi A3 190 2)] A3) fun A5 =>
        go true 3 S SN pb_X12_qPartTold (n + 1) 53 [vR 21 190 0, vI x1, vI r2, vI r4, u4, u5] [] (wi A5 190 2 (w32 ((gi A5 190 2) + 1)))
      else
      cI (S 156 [vR 21 190 0, vR 32 254 3] A3) fun r7 A6 =>
      if r7 = 0 then
        cI (S 156 [vR 21 190 0, vR 32 255 3] A6) fun r9 A8 =>
        if r9 = 0 then
          go true 3 S SN pb_X12_qPartTold (n + 0) 153 [vR 21 190 0, vI x1, vI r2, vI r4, u4, u5] [] A8
        else
        go true 3 S SN pb_X12_qPartTold (n + 0) 78 [vR 21 190 0, vI x1, vI r2, vI r4, u4, u5] [] A8
      else
      go true 3 S SN pb_X12_qPartTold (n + 0) 78 [vR 21 190 0, vI x1, vI r2, vI r4, u4, u5] [] A6
    else
    go true 3 S SN pb_X12_qPartTold (n + 1) 186 [vR 21 190 0, vI x1, u2, u3, u4, u5] [] A := rfl

set_option maxRecDepth 100000 in
theorem q_X12_qPartTold_53 (S SN : SX) (n : Nat) (x1 : Int) (x2 : Int) (x3 : Int) (u4 : AV) (u5 : AV) (A : AH)  : go true 3 S SN pb_X12_qPartTold (n + 1) 53 [vR 21 190 0, vI x1, vI x2, vI x3, u4, u5] [] A =
    go true 3 S SN pb_X12_qPartTold (n + 0) 183 [vR 21 190 0, vI x1, vI x2, vI x3, u4, u5] [] A := rfl

set_option maxRecDepth 100000 in
theorem q_X12_qPartTold_78 (S SN : SX) (n : Nat) (x1 : Int) (x2 : Int) (x3 : Int) (u4 : AV) (u5 : AV) (A : AH)  : go true 3 S SN pb_X12_qPartTold (n + 1) 78 [vR 21 190 0, vI x1, vI x2, vI x3, u4, u5] [] A =
    cI (S 157 [vR 21 190 0, vR 32 254 3] A) fun r2 A1 =>
    if r2 = 0 then
      cV (S 158 [vR 21 190 0, vR 32 255 3] A1) fun A3 =>
      go true 3 S SN pb_X12_qPartTold (n + 0) 101 [vR 21 190 0, vI x1, vI x2, vI x3, vI r2, u5] [] A3
    else
    go true 3 S SN pb_X12_qPartTold (n + 0) 101 [vR 21 190 0, vI x1, vI x2, vI x3, vI r2, u5] [] A1 := rfl

set_option maxRecDepth 100000 in
theorem q_X12_qPartTold_101 (S SN : SX) (n : Nat) (x1 : Int) (x2 : Int) (x3 : Int) (x4 : Int) (u5 : AV) (A : AH)  : go true 3 S SN pb_X12_qPartTold (n + 2) 101 [vR 21 190 0, vI x1, vI x2, vI x3, vI x4, u5] [] A =
    cI (S 155 [vR 21 190 0] A) fun r2 A1 =>
    if r2 = 40 then
      go true 3 S SN pb_X12_qPartTold (n + 1) 118 [vR 21 190 0, vI x1, vI x2, vI x3, vI x4, u5] [vI (gi A1 190 2)] A1
    else
    go true 3 S SN pb_X12_qPartTold (n + 0) 118 [vR 21 190 0, vI x1, vI x2, vI x3, vI x4, u5] [vI (-1)] A1 := rfl

set_option maxRecDepth 100000 in
theorem q_X12_qPartTold_118 (S SN : SX) (n : Nat) (x1 : Int) (x2 : Int) (x3 : Int) (x4 : Int) (u5 : AV) (sx0 : Int) (A : AH)  : go true 3 S SN pb_X12_qPartTold (n + 2) 118 [vR 21 190 0, vI x1, vI x2, vI x3, vI x4, u5] [vI sx0] A =
    if sx0 = (-1) then
      go true 3 S SN pb_X12_qPartTold (n + 1) 144 [vR 21 190 0, vI x1, vI x2, vI x3, vI x4, vI sx0] [] A
    else
    if x4 = 0 then
      go true 3 S SN pb_X12_qPartTold (n + 0) 139 [vR 21 190 0, vI x1, vI x2, vI x3, vI x4, vI sx0] [vI 22, vR 21 190 0] A
    else
    go true 3 S SN pb_X12_qPartTold (n + 1) 139 [vR 21 190 0, vI x1, vI x2, vI x3, vI x4, vI sx0] [vI 21, vR 21 190 0] A := rfl

set_option maxRecDepth 100000 in
theorem q_X12_qPartTold_139 (S SN : SX) (n : Nat) (x1 : Int) (x2 : Int) (x3 : Int) (x4 : Int) (x5 : Int) (sx0 : Int) (A : AH)  : go true 3 S SN pb_X12_qPartTold (n + 1) 139 [vR 21 190 0, vI x1, vI x2, vI x3, vI x4, vI x5] [vI sx0, vR 21 190 0] A =
    cV (S 263 [vR 21 190 0, vI sx0, vI x5] A) fun A1 =>
    go true 3 S SN pb_X12_qPartTold (n + 0) 144 [vR 21 190 0, vI x1, vI x2, vI x3, vI x4, vI x5] [] A1 := rfl

set_option maxRecDepth 100000 in
theorem q_X12_qPartTold_144 (S SN : SX) (n : Nat) (x1 : Int) (x2 : Int) (x3 : Int) (x4 : Int) (x5 : Int) (A : AH)  : go true 3 S SN pb_X12_qPartTold (n + 1) 144 [vR 21 190 0, vI x1, vI x2, vI x3, vI x4, vI x5] [] A =
    cV (S 160 [vR 21 190 0, vI 40] A) fun A1 =>
    go true 3 S SN pb_X12_qPartTold (n + 0) 183 [vR 21 190 0, vI x1, vI x2, vI x3, vI x4, vI x5] [] A1 := rfl

set_option maxRecDepth 100000 in
theorem q_X12_qPartTold_153 (S SN : SX) (n : Nat) (x1 : Int) (x2 : Int) (x3 : Int) (u4 : AV) (u5 : AV) (A : AH)  : go true 3 S SN pb_X12_qPartTold (n + 2) 153 [vR 21 190 0, vI x1, vI x2, vI x3, u4, u5] [] A =
    if x3 = (-1) then
      go true 3 S SN pb_X12_qPartTold (n + 0) 183 [vR 21 190 0, vI 0, vI x2, vI x3, u4, u5] [] A
    else
    cV (S 263 [vR 21 190 0, vI (w32 ((w32 (60 + x3)) - 10)), vI (gi A 190 2)] A) fun A1 =>
    cV (S 271 [vR 21 190 0, vI x3] A1) fun A2 =>
    go true 3 S SN pb_X12_qPartTold (n + 1) 183 [vR 21 190 0, vI x1, vI x2, vI x3, u4, u5] [] A2 := rfl

set_option maxRecDepth 100000 in
theorem q_X12_qPartTold_183 (S SN : SX) (n : Nat) (x1 : Int) (x2 : Int) (x3 : Int) (u4 : AV) (u5 : AV) (A : AH)  : go true 3 S SN pb_X12_qPartTold (n + 1) 183 [vR 21 190 0, vI x1, vI x2, vI x3, u4, u5] [] A =
    go true 3 S SN pb_X12_qPartTold (n + 0) 2 [vR 21 190 0, vI x1, vI x2, vI x3, u4, u5] [] A := rfl

set_option maxRecDepth 100000 in
theorem q_X12_qPartTold_186 (S SN : SX) (n : Nat) (x1 : Int) (u2 : AV) (u3 : AV) (u4 : AV) (u5 : AV) (A : AH)  : go true 3 S SN pb_X12_qPartTold (n + 2) 186 [vR 21 190 0, vI x1, u2, u3, u4, u5] [] A =
    if (gi A 190 5) = 0 then
      cI (S 270 [vR 21 190 0, vI 0, vI 10] A) fun r2 A1 =>
      if r2 = (-1) then
        go true 3 S SN pb_X12_qPartTold (n + 0) 212 [vR 21 190 0, vI x1, vI r2, u3, u4, u5] [] A1
      else
      cV (S 271 [vR 21 190 0, vI r2] A1) fun A3 =>
      go true 3 S SN pb_X12_qPartTold (n + 0) 212 [vR 21 190 0, vI x1, vI r2, u3, u4, u5] [] A3
    else
    some (none, A) := rfl

set_option maxRecDepth 100000 in
theorem q_X12_qPartTold_212 (S SN : SX) (n : Nat) (x1 : Int) (x2 : Int) (u3 : AV) (u4 : AV) (u5 : AV) (A : AH)  : go true 3 S SN pb_X12_qPartTold (n + 2) 212 [vR 21 190 0, vI x1, vI x2, u3, u4, u5] [] A =
    if x2 = (-1) then
      cI (S 161 [vR 21 190 0, vI 0, vI 9999] A) fun r2 A1 =>
      go true 3 S SN pb_X12_qPartTold (n + 0) 237 [vR 21 190 0, vI x1, vI x2, u3, u4, u5] [vI (w32 (1000 + r2)), vR 21 190 0] A1
    else
    go true 3 S SN pb_X12_qPartTold (n + 1) 237 [vR 21 190 0, vI x1, vI x2, u3, u4, u5] [vI (w32 (40 + x2)), vR 21 190 0] A := rfl

set_option maxRecDepth 100000 in
theorem q_X12_qPartTold_237 (S SN : SX) (n : Nat) (x1 : Int) (x2 : Int) (u3 : AV) (u4 : AV) (u5 : AV) (sx0 : Int) (A : AH)  : go true 3 S SN pb_X12_qPartTold (n + 1) 237 [vR 21 190 0, vI x1, vI x2, u3, u4, u5] [vI sx0, vR 21 190 0] A =
    cV (S 262 [vR 21 190 0, vI sx0] A) fun A1 =>
    cV (S 272 [vR 21 190 0] A1) fun A2 =>
    some (none, A2) := rfl

set_option maxRecDepth 100000 in
theorem q_X12_qGoesOn_0 (S SN : SX) (n : Nat)  (A : AH)  : go true 2 S SN pb_X12_qGoesOn (n + 1) 0 [vR 21 190 0, vU] [] A =
    if (gi A 190 5) = 0 then
      cI (S 155 [vR 21 190 0] A) fun r2 A1 =>
      if r2 = 41 then
        cI (S 267 [vR 21 190 0] A1) fun r4 A3 =>
        if r4 = 20 then
          go true 2 S SN pb_X12_qGoesOn (n + 0) 43 [vR 21 190 0, vU] [] A3
        else
        cI (S 267 [vR 21 190 0] A3) fun r6 A5 =>
        if r6 = 23 then
          go true 2 S SN pb_X12_qGoesOn (n + 0) 43 [vR 21 190 0, vU] [] A5
        else
        cI (S 267 [vR 21 190 0] A5) fun r8 A7 =>
        if r8 = 24 then
          go true 2 S SN pb_X12_qGoesOn (n + 0) 43 [vR 21 190 0, vU] [] A7
        else
        go true 2 S SN pb_X12_qGoesOn (n + 0) 122 [vR 21 190 0, vU] [] A7
      else
      go true 2 S SN pb_X12_qGoesOn (n + 0) 122 [vR 21 190 0, vU] [] A1
    else
    go true 2 S SN pb_X12_qGoesOn (n + 0) 122 [vR 21 190 0, vU] [] A := rfl

set_option maxRecDepth 100000 in
theorem q_X12_qGoesOn_43 (S SN : SX) (n : Nat) (u1 : AV) (A : AH)  : go true 2 S SN pb_X12_qGoesOn (n + 1) 43 [vR 21 190 0, u1] [] A =
    go true 2 S SN pb_X12_qGoesOn (n + 0) 53 [vR 21 190 0, u1] [] (wi A 190 2 (w32 ((gi A 190 2) + 1))) := rfl

set_option maxRecDepth 100000 in
theorem q_X12_qGoesOn_53 (S SN : SX) (n : Nat) (u1 : AV) (A : AH)  : go true 2 S SN pb_X12_qGoesOn (n + 1) 53 [vR 21 190 0, u1] [] A =
    cV (S 268 [vR 21 190 0] A) fun A1 =>
    go true 2 S SN pb_X12_qGoesOn (n + 0) 67 [vR 21 190 0, u1] [] (wi A1 190 102 (w32 ((gi A1 190 102) - 1))) := rfl

set_option maxRecDepth 100000 in
theorem q_X12_qGoesOn_67 (S SN : SX) (n : Nat) (u1 : AV) (A : AH)  : go true 2 S SN pb_X12_qGoesOn (n + 1) 67 [vR 21 190 0, u1] [] A =
    go true 2 S SN pb_X12_qGoesOn (n + 0) 77 [vR 21 190 0, u1] [] (wi A 190 103 (w32 ((gi A 190 103) - 1))) := rfl

set_option maxRecDepth 100000 in
theorem q_X12_qGoesOn_77 (S SN : SX) (n : Nat) (u1 : AV) (A : AH)  : go true 2 S SN pb_X12_qGoesOn (n + 2) 77 [vR 21 190 0, u1] [] A =
    if (0 : Int) ≤ gi A 190 102 ∧ gi A 190 102 < 1700 then
      if (gi A 268 ((gi A 190 102).toNat)) = 20 then
        go true 2 S SN pb_X12_qGoesOn (n + 1) 115 [vR 21 190 0, u1] [] A
      else
      if (0 : Int) ≤ gi A 190 102 ∧ gi A 190 102 < 1700 then
        if (gi A 268 ((gi A 190 102).toNat)) = 23 then
          go true 2 S SN pb_X12_qGoesOn (n + 1) 112 [vR 21 190 0, u1] [vI 5, vR 21 190 0] A
        else
        go true 2 S SN pb_X12_qGoesOn (n + 0) 112 [vR 21 190 0, u1] [vI 6, vR 21 190 0] A
      else none
    else none := rfl

set_option maxRecDepth 100000 in
theorem q_X12_qGoesOn_112 (S SN : SX) (n : Nat) (u1 : AV) (sx0 : Int) (A : AH)  : go true 2 S SN pb_X12_qGoesOn (n + 1) 112 [vR 21 190 0, u1] [vI sx0, vR 21 190 0] A =
    cV (S 262 [vR 21 190 0, vI sx0] A) fun A1 =>
    go true 2 S SN pb_X12_qGoesOn (n + 0) 115 [vR 21 190 0, u1] [] A1 := rfl

set_option maxRecDepth 100000 in
theorem q_X12_qGoesOn_115 (S SN : SX) (n : Nat) (u1 : AV) (A : AH)  : go true 2 S SN pb_X12_qGoesOn (n + 1) 115 [vR 21 190 0, u1] [] A =
    cV (S 272 [vR 21 190 0] A) fun A1 =>
    go true 2 S SN pb_X12_qGoesOn (n + 0) 0 [vR 21 190 0, u1] [] A1 := rfl

set_option maxRecDepth 100000 in
theorem q_X12_qGoesOn_122 (S SN : SX) (n : Nat) (u1 : AV) (A : AH)  : go true 2 S SN pb_X12_qGoesOn (n + 5) 122 [vR 21 190 0, u1] [] A =
    cI (S 159 [vR 21 190 0, vI 42] A) fun r2 A1 =>
    if r2 = 0 then
      cI (S 159 [vR 21 190 0, vI 47] A1) fun r4 A3 =>
      if r4 = 0 then
        cI (S 159 [vR 21 190 0, vI 43] A3) fun r6 A5 =>
        if r6 = 0 then
          cI (S 159 [vR 21 190 0, vI 45] A5) fun r8 A7 =>
          if r8 = 0 then
            cI (S 267 [vR 21 190 0] A7) fun r10 A9 =>
            if r10 = 21 then
              go true 2 S SN pb_X12_qGoesOn (n + 2) 326 [vR 21 190 0, u1] [] A9
            else
            cI (S 267 [vR 21 190 0] A9) fun r12 A11 =>
            if r12 = 22 then
              go true 2 S SN pb_X12_qGoesOn (n + 2) 326 [vR 21 190 0, u1] [] A11
            else
            cI (S 267 [vR 21 190 0] A11) fun r14 A13 =>
            if r14 = (-1) then
              some (some (vI 0), A13)
            else
            if (gi A13 190 5) = 0 then
              cV (S 152 [vR 21 190 0, vI 1, vI (gi A13 190 2)] A13) fun A15 =>
              some (some (vI 0), A15)
            else
            some (some (vI 0), A13)
          else
          go true 2 S SN pb_X12_qGoesOn (n + 3) 225 [vR 21 190 0, u1] [] A7
        else
        go true 2 S SN pb_X12_qGoesOn (n + 3) 225 [vR 21 190 0, u1] [] A5
      else
      go true 2 S SN pb_X12_qGoesOn (n + 4) 140 [vR 21 190 0, u1] [] A3
    else
    go true 2 S SN pb_X12_qGoesOn (n + 4) 140 [vR 21 190 0, u1] [] A1 := rfl

set_option maxRecDepth 100000 in
theorem q_X12_qGoesOn_140 (S SN : SX) (n : Nat) (u1 : AV) (A : AH)  : go true 2 S SN pb_X12_qGoesOn (n + 2) 140 [vR 21 190 0, u1] [] A =
    if (0 : Int) ≤ w32 ((gi A 190 2) - 1) ∧ w32 ((gi A 190 2) - 1) < 1600 then
      if (gi A 191 ((w32 ((gi A 190 2) - 1)).toNat)) = 42 then
        go true 2 S SN pb_X12_qGoesOn (n + 1) 161 [vR 21 190 0, u1] [vI 3] A
      else
      go true 2 S SN pb_X12_qGoesOn (n + 0) 161 [vR 21 190 0, u1] [vI 4] A
    else none := rfl

set_option maxRecDepth 100000 in
theorem q_X12_qGoesOn_161 (S SN : SX) (n : Nat) (u1 : AV) (sx0 : Int) (A : AH)  : go true 2 S SN pb_X12_qGoesOn (n + 1) 161 [vR 21 190 0, u1] [vI sx0] A =
    go true 2 S SN pb_X12_qGoesOn (n + 0) 162 [vR 21 190 0, vI sx0] [] A := rfl

set_option maxRecDepth 100000 in
theorem q_X12_qGoesOn_162 (S SN : SX) (n : Nat) (x1 : Int) (A : AH)  : go true 2 S SN pb_X12_qGoesOn (n + 2) 162 [vR 21 190 0, vI x1] [] A =
    cI (S 264 [vR 21 190 0, vI 3] A) fun r2 A1 =>
    if r2 = 0 then
      cI (S 264 [vR 21 190 0, vI 4] A1) fun r4 A3 =>
      if r4 = 0 then
        if (0 : Int) ≤ gi A3 190 102 ∧ gi A3 190 102 < 1700 then
          go true 2 S SN pb_X12_qGoesOn (n + 0) 195 [vR 21 190 0, vI x1] [] (wi A3 268 ((gi A3 190 102).toNat) x1)
        else none
      else
      go true 2 S SN pb_X12_qGoesOn (n + 1) 178 [vR 21 190 0, vI x1] [] A3
    else
    go true 2 S SN pb_X12_qGoesOn (n + 1) 178 [vR 21 190 0, vI x1] [] A1 := rfl

set_option maxRecDepth 100000 in
theorem q_X12_qGoesOn_178 (S SN : SX) (n : Nat) (x1 : Int) (A : AH)  : go true 2 S SN pb_X12_qGoesOn (n + 1) 178 [vR 21 190 0, vI x1] [] A =
    cV (S 265 [vR 21 190 0] A) fun A1 =>
    go true 2 S SN pb_X12_qGoesOn (n + 0) 162 [vR 21 190 0, vI x1] [] A1 := rfl

set_option maxRecDepth 100000 in
theorem q_X12_qGoesOn_195 (S SN : SX) (n : Nat) (x1 : Int) (A : AH)  : go true 2 S SN pb_X12_qGoesOn (n + 1) 195 [vR 21 190 0, vI x1] [] A =
    go true 2 S SN pb_X12_qGoesOn (n + 0) 205 [vR 21 190 0, vI x1] [] (wi A 190 102 (w32 ((gi A 190 102) + 1))) := rfl

set_option maxRecDepth 100000 in
theorem q_X12_qGoesOn_205 (S SN : SX) (n : Nat) (x1 : Int) (A : AH)  : go true 2 S SN pb_X12_qGoesOn (n + 1) 205 [vR 21 190 0, vI x1] [] A =
    some (some (vI 1), A) := rfl

set_option maxRecDepth 100000 in
theorem q_X12_qGoesOn_225 (S SN : SX) (n : Nat) (u1 : AV) (A : AH)  : go true 2 S SN pb_X12_qGoesOn (n + 2) 225 [vR 21 190 0, u1] [] A =
    if (0 : Int) ≤ w32 ((gi A 190 2) - 1) ∧ w32 ((gi A 190 2) - 1) < 1600 then
      if (gi A 191 ((w32 ((gi A 190 2) - 1)).toNat)) = 43 then
        go true 2 S SN pb_X12_qGoesOn (n + 1) 246 [vR 21 190 0, u1] [vI 1] A
      else
      go true 2 S SN pb_X12_qGoesOn (n + 0) 246 [vR 21 190 0, u1] [vI 2] A
    else none := rfl

set_option maxRecDepth 100000 in
theorem q_X12_qGoesOn_246 (S SN : SX) (n : Nat) (u1 : AV) (sx0 : Int) (A : AH)  : go true 2 S SN pb_X12_qGoesOn (n + 1) 246 [vR 21 190 0, u1] [vI sx0] A =
    go true 2 S SN pb_X12_qGoesOn (n + 0) 247 [vR 21 190 0, vI sx0] [] A := rfl

set_option maxRecDepth 100000 in
theorem q_X12_qGoesOn_247 (S SN : SX) (n : Nat) (x1 : Int) (A : AH)  : go true 2 S SN pb_X12_qGoesOn (n + 2) 247 [vR 21 190 0, vI x1] [] A =
    cI (S 264 [vR 21 190 0, vI 3] A) fun r2 A1 =>
    if r2 = 0 then
      cI (S 264 [vR 21 190 0, vI 4] A1) fun r4 A3 =>
      if r4 = 0 then
        cI (S 264 [vR 21 190 0, vI 1] A3) fun r6 A5 =>
        if r6 = 0 then
          cI (S 264 [vR 21 190 0, vI 2] A5) fun r8 A7 =>
          if r8 = 0 then
            if (0 : Int) ≤ gi A7 190 102 ∧ gi A7 190 102 < 1700 then
              go true 2 S SN pb_X12_qGoesOn (n + 0) 296 [vR 21 190 0, vI x1] [] (wi A7 268 ((gi A7 190 102).toNat) x1)
            else none
          else
          go true 2 S SN pb_X12_qGoesOn (n + 1) 279 [vR 21 190 0, vI x1] [] A7
        else
        go true 2 S SN pb_X12_qGoesOn (n + 1) 279 [vR 21 190 0, vI x1] [] A5
      else
      go true 2 S SN pb_X12_qGoesOn (n + 1) 279 [vR 21 190 0, vI x1] [] A3
    else
    go true 2 S SN pb_X12_qGoesOn (n + 1) 279 [vR 21 190 0, vI x1] [] A1 := rfl

set_option maxRecDepth 100000 in
theorem q_X12_qGoesOn_279 (S SN : SX) (n : Nat) (x1 : Int) (A : AH)  : go true 2 S SN pb_X12_qGoesOn (n + 1) 279 [vR 21 190 0, vI x1] [] A =
    cV (S 265 [vR 21 190 0] A) fun A1 =>
    go true 2 S SN pb_X12_qGoesOn (n + 0) 247 [vR 21 190 0, vI x1] [] A1 := rfl

set_option maxRecDepth 100000 in
theorem q_X12_qGoesOn_296 (S SN : SX) (n : Nat) (x1 : Int) (A : AH)  : go true 2 S SN pb_X12_qGoesOn (n + 1) 296 [vR 21 190 0, vI x1] [] A =
    go true 2 S SN pb_X12_qGoesOn (n + 0) 306 [vR 21 190 0, vI x1] [] (wi A 190 102 (w32 ((gi A 190 102) + 1))) := rfl

set_option maxRecDepth 100000 in
theorem q_X12_qGoesOn_306 (S SN : SX) (n : Nat) (x1 : Int) (A : AH)  : go true 2 S SN pb_X12_qGoesOn (n + 1) 306 [vR 21 190 0, vI x1] [] A =
    some (some (vI 1), A) := rfl

set_option maxRecDepth 100000 in
theorem q_X12_qGoesOn_326 (S SN : SX) (n : Nat) (u1 : AV) (A : AH)  : go true 2 S SN pb_X12_qGoesOn (n + 2) 326 [vR 21 190 0, u1] [] A =
    cV (S 160 [vR 21 190 0, vI 44] A) fun A1 =>
    if (gi A1 190 5) = 0 then
      cV (S 268 [vR 21 190 0] A1) fun A2 =>
      if (0 : Int) ≤ w32 ((gi A2 190 102) - 1) ∧ w32 ((gi A2 190 102) - 1) < 1700 then
        if (0 : Int) ≤ w32 ((gi A2 190 102) - 1) ∧ w32 ((gi A2 190 102) - 1) < 1700 then
          go true 2 S SN pb_X12_qGoesOn (n + 0) 360 [vR 21 190 0, u1] [] (wi A2 268 ((w32 ((gi A2 190 102) - 1)).toNat) (w32 ((gi A2 268 ((w32 ((gi A2 190 102) - 1)).toNat)) + 2)))
        else none
      else none
    else
    some (some (vI 0), A1) := rfl

set_option maxRecDepth 100000 in
theorem q_X12_qGoesOn_360 (S SN : SX) (n : Nat) (u1 : AV) (A : AH)  : go true 2 S SN pb_X12_qGoesOn (n + 1) 360 [vR 21 190 0, u1] [] A =
    some (some (vI 1), A) := rfl

set_option maxRecDepth 100000 in
theorem q_X12_qSums_0 (S SN : SX) (n : Nat)  (A : AH)  : go true 3 S SN pb_X12_qSums (n + 1) 0 [vR 21 190 0, vU, vU] [] A =
    go true 3 S SN pb_X12_qSums (n + 0) 13 [vR 21 190 0, vI (gi A 190 104), vU] [] (wi A 190 104 (gi A 190 102)) := rfl

set_option maxRecDepth 100000 in
theorem q_X12_qSums_13 (S SN : SX) (n : Nat) (x1 : Int) (u2 : AV) (A : AH)  : go true 3 S SN pb_X12_qSums (n + 1) 13 [vR 21 190 0, vI x1, u2] [] A =
    go true 3 S SN pb_X12_qSums (n + 0) 15 [vR 21 190 0, vI x1, vI 1] [] A := rfl

set_option maxRecDepth 100000 in
theorem q_X12_qSums_15 (S SN : SX) (n : Nat) (x1 : Int) (x2 : Int) (A : AH)  : go true 3 S SN pb_X12_qSums (n + 1) 15 [vR 21 190 0, vI x1, vI x2] [] A =
    if x2 = 0 then
      go true 3 S SN pb_X12_qSums (n + 0) 53 [vR 21 190 0, vI x1, vI x2] [] A
    else
    if (gi A 190 5) = 0 then
      cV (S 273 [vR 21 190 0] A) fun A1 =>
      if (gi A1 190 5) = 0 then
        cI (S 274 [vR 21 190 0] A1) fun r3 A2 =>
        if r3 = 0 then
          go true 3 S SN pb_X12_qSums (n + 0) 48 [vR 21 190 0, vI x1, vI x2] [] A2
        else
        go true 3 S SN pb_X12_qSums (n + 0) 49 [vR 21 190 0, vI x1, vI x2] [vI 1] A2
      else
      go true 3 S SN pb_X12_qSums (n + 0) 48 [vR 21 190 0, vI x1, vI x2] [] A1
    else
    go true 3 S SN pb_X12_qSums (n + 0) 53 [vR 21 190 0, vI x1, vI x2] [] A := rfl

set_option maxRecDepth 100000 in
theorem q_X12_qSums_48 (S SN : SX) (n : Nat) (x1 : Int) (x2 : Int) (A : AH)  : go true 3 S SN pb_X12_qSums (n + 1) 48 [vR 21 190 0, vI x1, vI x2] [] A =
    go true 3 S SN pb_X12_qSums (n + 0) 49 [vR 21 190 0, vI x1, vI x2] [vI 0] A := rfl

set_option maxRecDepth 100000 in
theorem q_X12_qSums_49 (S SN : SX) (n : Nat) (x1 : Int) (x2 : Int) (sx0 : Int) (A : AH)  : go true 3 S SN pb_X12_qSums (n + 1) 49 [vR 21 190 0, vI x1, vI x2] [vI sx0] A =
    go true 3 S SN pb_X12_qSums (n + 0) 15 [vR 21 190 0, vI x1, vI sx0] [] A := rfl

set_option maxRecDepth 100000 in
theorem q_X12_qSums_53 (S SN : SX) (n : Nat) (x1 : Int) (x2 : Int) (A : AH)  : go true 3 S SN pb_X12_qSums (n + 1) 53 [vR 21 190 0, vI x1, vI x2] [] A =
    if (gi A 190 5) = 0 then
      if (gi A 190 104) < (gi A 190 102) then
        cV (S 265 [vR 21 190 0] A) fun A1 =>
        go true 3 S SN pb_X12_qSums (n + 0) 53 [vR 21 190 0, vI x1, vI x2] [] A1
      else
      go true 3 S SN pb_X12_qSums (n + 0) 78 [vR 21 190 0, vI x1, vI x2] [] A
    else
    go true 3 S SN pb_X12_qSums (n + 0) 78 [vR 21 190 0, vI x1, vI x2] [] A := rfl

set_option maxRecDepth 100000 in
theorem q_X12_qSums_78 (S SN : SX) (n : Nat) (x1 : Int) (x2 : Int) (A : AH)  : go true 3 S SN pb_X12_qSums (n + 1) 78 [vR 21 190 0, vI x1, vI x2] [] A =
    some (none, wi A 190 104 x1) := rfl

set_option maxRecDepth 100000 in
theorem q_X12_qFact_0 (S SN : SX) (n : Nat)  (A : AH)  : go true 3 S SN pb_X12_qFact (n + 3) 0 [vR 21 190 0, vU] [] A =
    cI (S 157 [vR 21 190 0, vR 32 253 3] A) fun r2 A1 =>
    if r2 = 0 then
      cV (S 275 [vR 21 190 0] A1) fun A4 =>
      if (gi A4 190 5) = 0 then
        cI (S 155 [vR 21 190 0] A4) fun r6 A5 =>
        if r6 = 60 then
          go true 3 S SN pb_X12_qFact (n + 0) 63 [vR 21 190 0, vI r6] [] A5
        else
        if r6 = 62 then
          go true 3 S SN pb_X12_qFact (n + 0) 63 [vR 21 190 0, vI r6] [] A5
        else
        if r6 = 61 then
          go true 3 S SN pb_X12_qFact (n + 0) 63 [vR 21 190 0, vI r6] [] A5
        else
        cV (S 152 [vR 21 190 0, vI 1, vI (gi A5 190 2)] A5) fun A7 =>
        some (none, A7)
      else
      some (none, A4)
    else
    cV (S 262 [vR 21 190 0, vI 13] A1) fun A3 =>
    some (none, A3) := rfl

set_option maxRecDepth 100000 in
theorem q_X12_qFact_63 (S SN : SX) (n : Nat) (x1 : Int) (A : AH)  : go true 3 S SN pb_X12_qFact (n + 1) 63 [vR 21 190 0, vI x1] [] A =
    go true 3 S SN pb_X12_qFact (n + 0) 73 [vR 21 190 0, vI x1] [] (wi A 190 2 (w32 ((gi A 190 2) + 1))) := rfl

set_option maxRecDepth 100000 in
theorem q_X12_qFact_73 (S SN : SX) (n : Nat) (x1 : Int) (A : AH)  : go true 3 S SN pb_X12_qFact (n + 3) 73 [vR 21 190 0, vI x1] [] A =
    cV (S 275 [vR 21 190 0] A) fun A1 =>
    if x1 = 60 then
      go true 3 S SN pb_X12_qFact (n + 2) 102 [vR 21 190 0, vI x1] [vI 7, vR 21 190 0] A1
    else
    if x1 = 62 then
      go true 3 S SN pb_X12_qFact (n + 1) 102 [vR 21 190 0, vI x1] [vI 8, vR 21 190 0] A1
    else
    go true 3 S SN pb_X12_qFact (n + 0) 102 [vR 21 190 0, vI x1] [vI 9, vR 21 190 0] A1 := rfl

set_option maxRecDepth 100000 in
theorem q_X12_qFact_102 (S SN : SX) (n : Nat) (x1 : Int) (sx0 : Int) (A : AH)  : go true 3 S SN pb_X12_qFact (n + 1) 102 [vR 21 190 0, vI x1] [vI sx0, vR 21 190 0] A =
    cV (S 262 [vR 21 190 0, vI sx0] A) fun A1 =>
    some (none, A1) := rfl

set_option maxRecDepth 100000 in
theorem q_X12_qHasSquare_0 (S SN : SX) (n : Nat)  (A : AH)  : go true 2 S SN pb_X12_qHasSquare (n + 1) 0 [vR 21 190 0, vU] [] A =
    go true 2 S SN pb_X12_qHasSquare (n + 0) 2 [vR 21 190 0, vI 0] [] A := rfl

set_option maxRecDepth 100000 in
theorem q_X12_qHasSquare_2 (S SN : SX) (n : Nat) (x1 : Int) (A : AH)  : go true 2 S SN pb_X12_qHasSquare (n + 2) 2 [vR 21 190 0, vI x1] [] A =
    if x1 < (gi A 190 102) then
      if (0 : Int) ≤ x1 ∧ x1 < 1700 then
        if (gi A 268 x1.toNat) = 25 then some (some (vI 1), A) else
        go true 2 S SN pb_X12_qHasSquare (n + 0) 2 [vR 21 190 0, vI (w32 (x1 + 1))] [] A
      else none
    else
    some (some (vI 0), A) := rfl

set_option maxRecDepth 100000 in
theorem q_X12_qDropsNots_0 (S SN : SX) (n : Nat)  (A : AH)  : go true 3 S SN pb_X12_qDropsNots (n + 2) 0 [vR 21 190 0] [] A =
    if (gi A 190 5) = 0 then
      cI (S 264 [vR 21 190 0, vI 12] A) fun r2 A1 =>
      if r2 = 0 then
        some (none, A1)
      else
      go true 3 S SN pb_X12_qDropsNots (n + 1) 26 [vR 21 190 0] [] (wi A1 190 103 (w32 ((gi A1 190 103) - 1)))
    else
    some (none, A) := rfl

set_option maxRecDepth 100000 in
theorem q_X12_qDropsNots_26 (S SN : SX) (n : Nat)  (A : AH)  : go true 3 S SN pb_X12_qDropsNots (n + 1) 26 [vR 21 190 0] [] A =
    cV (S 265 [vR 21 190 0] A) fun A1 =>
    go true 3 S SN pb_X12_qDropsNots (n + 0) 0 [vR 21 190 0] [] A1 := rfl

set_option maxRecDepth 100000 in
theorem q_X12_qTest_0 (S SN : SX) (n : Nat)  (A : AH)  : go true 3 S SN pb_X12_qTest (n + 1) 0 [vR 21 190 0, vU, vU] [] A =
    go true 3 S SN pb_X12_qTest (n + 0) 2 [vR 21 190 0, vI 1, vU] [] A := rfl

set_option maxRecDepth 100000 in
theorem q_X12_qTest_2 (S SN : SX) (n : Nat) (x1 : Int) (u2 : AV) (A : AH)  : go true 3 S SN pb_X12_qTest (n + 2) 2 [vR 21 190 0, vI x1, u2] [] A =
    if x1 = 0 then
      go true 3 S SN pb_X12_qTest (n + 1) 110 [vR 21 190 0, vI x1, u2] [] A
    else
    if (gi A 190 5) = 0 then
      cI (S 155 [vR 21 190 0] A) fun r2 A1 =>
      if r2 = 91 then
        cV (S 263 [vR 21 190 0, vI 25, vI (gi A1 190 2)] A1) fun A3 =>
        go true 3 S SN pb_X12_qTest (n + 1) 44 [vR 21 190 0, vI x1, vI r2] [] (wi A3 190 2 (w32 ((gi A3 190 2) + 1)))
      else
      cI (S 156 [vR 21 190 0, vR 32 250 3] A1) fun r5 A4 =>
      if r5 = 0 then
        go true 3 S SN pb_X12_qTest (n + 0) 79 [vR 21 190 0, vI x1, vI r2] [] A4
      else
      cV (S 263 [vR 21 190 0, vI 12, vI (gi A4 190 2)] A4) fun A6 =>
      cV (S 158 [vR 21 190 0, vR 32 250 3] A6) fun A7 =>
      go true 3 S SN pb_X12_qTest (n + 0) 2 [vR 21 190 0, vI x1, vI r2] [] A7
    else
    go true 3 S SN pb_X12_qTest (n + 1) 110 [vR 21 190 0, vI x1, u2] [] A := rfl

set_option maxRecDepth 100000 in
theorem q_X12_qTest_44 (S SN : SX) (n : Nat) (x1 : Int) (x2 : Int) (A : AH)  : go true 3 S SN pb_X12_qTest (n + 1) 44 [vR 21 190 0, vI x1, vI x2] [] A =
    go true 3 S SN pb_X12_qTest (n + 0) 2 [vR 21 190 0, vI x1, vI x2] [] A := rfl

set_option maxRecDepth 100000 in
theorem q_X12_qTest_79 (S SN : SX) (n : Nat) (x1 : Int) (x2 : Int) (A : AH)  : go true 3 S SN pb_X12_qTest (n + 1) 79 [vR 21 190 0, vI x1, vI x2] [] A =
    cV (S 276 [vR 21 190 0] A) fun A1 =>
    cV (S 278 [vR 21 190 0] A1) fun A2 =>
    if (gi A2 190 5) = 0 then
      cI (S 280 [vR 21 190 0] A2) fun r4 A3 =>
      if r4 = 0 then
        go true 3 S SN pb_X12_qTest (n + 0) 105 [vR 21 190 0, vI x1, vI x2] [] A3
      else
      go true 3 S SN pb_X12_qTest (n + 0) 106 [vR 21 190 0, vI x1, vI x2] [vI 1] A3
    else
    go true 3 S SN pb_X12_qTest (n + 0) 105 [vR 21 190 0, vI x1, vI x2] [] A2 := rfl

set_option maxRecDepth 100000 in
theorem q_X12_qTest_105 (S SN : SX) (n : Nat) (x1 : Int) (x2 : Int) (A : AH)  : go true 3 S SN pb_X12_qTest (n + 1) 105 [vR 21 190 0, vI x1, vI x2] [] A =
    go true 3 S SN pb_X12_qTest (n + 0) 106 [vR 21 190 0, vI x1, vI x2] [vI 0] A := rfl

set_option maxRecDepth 100000 in
theorem q_X12_qTest_106 (S SN : SX) (n : Nat) (x1 : Int) (x2 : Int) (sx0 : Int) (A : AH)  : go true 3 S SN pb_X12_qTest (n + 1) 106 [vR 21 190 0, vI x1, vI x2] [vI sx0] A =
    go true 3 S SN pb_X12_qTest (n + 0) 2 [vR 21 190 0, vI sx0, vI x2] [] A := rfl

set_option maxRecDepth 100000 in
theorem q_X12_qTest_110 (S SN : SX) (n : Nat) (x1 : Int) (u2 : AV) (A : AH)  : go true 3 S SN pb_X12_qTest (n + 2) 110 [vR 21 190 0, vI x1, u2] [] A =
    if (gi A 190 5) = 0 then
      if 0 < (gi A 190 102) then
        cV (S 265 [vR 21 190 0] A) fun A1 =>
        go true 3 S SN pb_X12_qTest (n + 1) 110 [vR 21 190 0, vI x1, u2] [] A1
      else
      some (none, A)
    else
    some (none, A) := rfl

set_option maxRecDepth 100000 in
theorem q_X12_qGoesOnTest_0 (S SN : SX) (n : Nat)  (A : AH)  : go true 2 S SN pb_X12_qGoesOnTest (n + 1) 0 [vR 21 190 0] [] A =
    if (gi A 190 5) = 0 then
      cI (S 155 [vR 21 190 0] A) fun r2 A1 =>
      if r2 = 93 then
        cI (S 277 [vR 21 190 0] A1) fun r4 A3 =>
        if r4 = 0 then
          go true 2 S SN pb_X12_qGoesOnTest (n + 0) 76 [vR 21 190 0] [] A3
        else
        go true 2 S SN pb_X12_qGoesOnTest (n + 0) 33 [vR 21 190 0] [] (wi A3 190 2 (w32 ((gi A3 190 2) + 1)))
      else
      go true 2 S SN pb_X12_qGoesOnTest (n + 0) 76 [vR 21 190 0] [] A1
    else
    go true 2 S SN pb_X12_qGoesOnTest (n + 0) 76 [vR 21 190 0] [] A := rfl

set_option maxRecDepth 100000 in
theorem q_X12_qGoesOnTest_33 (S SN : SX) (n : Nat)  (A : AH)  : go true 2 S SN pb_X12_qGoesOnTest (n + 2) 33 [vR 21 190 0] [] A =
    cI (S 264 [vR 21 190 0, vI 25] A) fun r2 A1 =>
    if r2 = 0 then
      cV (S 265 [vR 21 190 0] A1) fun A3 =>
      go true 2 S SN pb_X12_qGoesOnTest (n + 1) 33 [vR 21 190 0] [] A3
    else
    go true 2 S SN pb_X12_qGoesOnTest (n + 0) 59 [vR 21 190 0] [] (wi A1 190 102 (w32 ((gi A1 190 102) - 1))) := rfl

set_option maxRecDepth 100000 in
theorem q_X12_qGoesOnTest_59 (S SN : SX) (n : Nat)  (A : AH)  : go true 2 S SN pb_X12_qGoesOnTest (n + 1) 59 [vR 21 190 0] [] A =
    go true 2 S SN pb_X12_qGoesOnTest (n + 0) 69 [vR 21 190 0] [] (wi A 190 103 (w32 ((gi A 190 103) - 1))) := rfl

set_option maxRecDepth 100000 in
theorem q_X12_qGoesOnTest_69 (S SN : SX) (n : Nat)  (A : AH)  : go true 2 S SN pb_X12_qGoesOnTest (n + 1) 69 [vR 21 190 0] [] A =
    cV (S 278 [vR 21 190 0] A) fun A1 =>
    go true 2 S SN pb_X12_qGoesOnTest (n + 0) 0 [vR 21 190 0] [] A1 := rfl

set_option maxRecDepth 100000 in
theorem q_X12_qGoesOnTest_76 (S SN : SX) (n : Nat)  (A : AH)  : go true 2 S SN pb_X12_qGoesOnTest (n + 4) 76 [vR 21 190 0] [] A =
    cI (S 157 [vR 21 190 0, vR 32 251 3] A) fun r2 A1 =>
    if r2 = 0 then
      cI (S 157 [vR 21 190 0, vR 32 252 2] A1) fun r4 A3 =>
      if r4 = 0 then
        if (gi A3 190 5) = 0 then
          cI (S 277 [vR 21 190 0] A3) fun r6 A5 =>
          if r6 = 0 then
            some (some (vI 0), A5)
          else
          cV (S 152 [vR 21 190 0, vI 1, vI (gi A5 190 2)] A5) fun A7 =>
          some (some (vI 0), A7)
        else
        some (some (vI 0), A3)
      else
      go true 2 S SN pb_X12_qGoesOnTest (n + 2) 137 [vR 21 190 0] [] A3
    else
    go true 2 S SN pb_X12_qGoesOnTest (n + 3) 87 [vR 21 190 0] [] A1 := rfl

set_option maxRecDepth 100000 in
theorem q_X12_qGoesOnTest_87 (S SN : SX) (n : Nat)  (A : AH)  : go true 2 S SN pb_X12_qGoesOnTest (n + 2) 87 [vR 21 190 0] [] A =
    cI (S 264 [vR 21 190 0, vI 10] A) fun r2 A1 =>
    if r2 = 0 then
      if (0 : Int) ≤ gi A1 190 102 ∧ gi A1 190 102 < 1700 then
        go true 2 S SN pb_X12_qGoesOnTest (n + 0) 114 [vR 21 190 0] [] (wi A1 268 ((gi A1 190 102).toNat) 10)
      else none
    else
    cV (S 265 [vR 21 190 0] A1) fun A3 =>
    go true 2 S SN pb_X12_qGoesOnTest (n + 1) 87 [vR 21 190 0] [] A3 := rfl

set_option maxRecDepth 100000 in
theorem q_X12_qGoesOnTest_114 (S SN : SX) (n : Nat)  (A : AH)  : go true 2 S SN pb_X12_qGoesOnTest (n + 1) 114 [vR 21 190 0] [] A =
    go true 2 S SN pb_X12_qGoesOnTest (n + 0) 124 [vR 21 190 0] [] (wi A 190 102 (w32 ((gi A 190 102) + 1))) := rfl

set_option maxRecDepth 100000 in
theorem q_X12_qGoesOnTest_124 (S SN : SX) (n : Nat)  (A : AH)  : go true 2 S SN pb_X12_qGoesOnTest (n + 1) 124 [vR 21 190 0] [] A =
    some (some (vI 1), A) := rfl

set_option maxRecDepth 100000 in
theorem q_X12_qGoesOnTest_137 (S SN : SX) (n : Nat)  (A : AH)  : go true 2 S SN pb_X12_qGoesOnTest (n + 2) 137 [vR 21 190 0] [] A =
    cI (S 264 [vR 21 190 0, vI 10] A) fun r2 A1 =>
    if r2 = 0 then
      cI (S 264 [vR 21 190 0, vI 11] A1) fun r4 A3 =>
      if r4 = 0 then
        if (0 : Int) ≤ gi A3 190 102 ∧ gi A3 190 102 < 1700 then
          go true 2 S SN pb_X12_qGoesOnTest (n + 0) 173 [vR 21 190 0] [] (wi A3 268 ((gi A3 190 102).toNat) 11)
        else none
      else
      go true 2 S SN pb_X12_qGoesOnTest (n + 1) 155 [vR 21 190 0] [] A3
    else
    go true 2 S SN pb_X12_qGoesOnTest (n + 1) 155 [vR 21 190 0] [] A1 := rfl

set_option maxRecDepth 100000 in
theorem q_X12_qGoesOnTest_155 (S SN : SX) (n : Nat)  (A : AH)  : go true 2 S SN pb_X12_qGoesOnTest (n + 1) 155 [vR 21 190 0] [] A =
    cV (S 265 [vR 21 190 0] A) fun A1 =>
    go true 2 S SN pb_X12_qGoesOnTest (n + 0) 137 [vR 21 190 0] [] A1 := rfl

set_option maxRecDepth 100000 in
theorem q_X12_qGoesOnTest_173 (S SN : SX) (n : Nat)  (A : AH)  : go true 2 S SN pb_X12_qGoesOnTest (n + 1) 173 [vR 21 190 0] [] A =
    go true 2 S SN pb_X12_qGoesOnTest (n + 0) 183 [vR 21 190 0] [] (wi A 190 102 (w32 ((gi A 190 102) + 1))) := rfl

set_option maxRecDepth 100000 in
theorem q_X12_qGoesOnTest_183 (S SN : SX) (n : Nat)  (A : AH)  : go true 2 S SN pb_X12_qGoesOnTest (n + 1) 183 [vR 21 190 0] [] A =
    some (some (vI 1), A) := rfl

set_option maxRecDepth 100000 in
theorem q_X12_qClip_0 (S SN : SX) (n : Nat) (y0 : Int) (A : AH)  : go true 1 S SN pb_X12_qClip (n + 4) 0 [vL y0, vS] [] A =
    if 0 < (lcp y0 1000000) then
      some (some (vL 1000000), A)
    else
    if (lcp y0 (-1000000)) < 0 then
      some (some (vL (-1000000)), A)
    else
    some (some (vL y0), A) := rfl

set_option maxRecDepth 100000 in
theorem q_X12_qFloor_0 (S SN : SX) (n : Nat) (y0 : Int) (y2 : Int) (A : AH)  : go true 1 S SN pb_X12_qFloor (n + 3) 0 [vL y0, vS, vL y2, vS, vU, vU] [] A =
    if (lcp y2 0) = 0 then some (some (vL 0), A) else
    if y2 = 0 then none else
    if y2 = 0 then none else
    if (lcp (y0.tmod y2) 0) = 0 then
      go true 1 S SN pb_X12_qFloor (n + 1) 53 [vL y0, vS, vL y2, vS, vL (w64 (y0.tdiv y2)), vS] [] A
    else
    if (lcp y0 0) < 0 then
      go true 1 S SN pb_X12_qFloor (n + 1) 32 [vL y0, vS, vL y2, vS, vL (w64 (y0.tdiv y2)), vS] [vI 1] A
    else
    go true 1 S SN pb_X12_qFloor (n + 0) 32 [vL y0, vS, vL y2, vS, vL (w64 (y0.tdiv y2)), vS] [vI 0] A := rfl

set_option maxRecDepth 100000 in
theorem q_X12_qFloor_32 (S SN : SX) (n : Nat) (y0 : Int) (y2 : Int) (y4 : Int) (sx0 : Int) (A : AH)  : go true 1 S SN pb_X12_qFloor (n + 2) 32 [vL y0, vS, vL y2, vS, vL y4, vS] [vI sx0] A =
    if (lcp y2 0) < 0 then
      go true 1 S SN pb_X12_qFloor (n + 1) 43 [vL y0, vS, vL y2, vS, vL y4, vS] [vI 1, vI sx0] A
    else
    go true 1 S SN pb_X12_qFloor (n + 0) 43 [vL y0, vS, vL y2, vS, vL y4, vS] [vI 0, vI sx0] A := rfl

set_option maxRecDepth 100000 in
theorem q_X12_qFloor_43 (S SN : SX) (n : Nat) (y0 : Int) (y2 : Int) (y4 : Int) (sx0 : Int) (sx1 : Int) (A : AH)  : go true 1 S SN pb_X12_qFloor (n + 2) 43 [vL y0, vS, vL y2, vS, vL y4, vS] [vI sx0, vI sx1] A =
    if sx1 = sx0 then
      go true 1 S SN pb_X12_qFloor (n + 1) 53 [vL y0, vS, vL y2, vS, vL y4, vS] [] A
    else
    some (some (vL (w64 (y4 - 1))), A) := rfl

set_option maxRecDepth 100000 in
theorem q_X12_qFloor_53 (S SN : SX) (n : Nat) (y0 : Int) (y2 : Int) (y4 : Int) (A : AH)  : go true 1 S SN pb_X12_qFloor (n + 2) 53 [vL y0, vS, vL y2, vS, vL y4, vS] [] A =
    some (some (vL y4), A) := rfl

set_option maxRecDepth 100000 in
theorem q_X12_qPuts_0 (S SN : SX) (n : Nat) (y1 : Int) (A : AH)  : go true 3 S SN pb_X12_qPuts (n + 1) 0 [vR 21 190 0, vL y1, vS] [] A =
    if (0 : Int) ≤ gi A 190 106 ∧ gi A 190 106 < 1700 then
      go true 3 S SN pb_X12_qPuts (n + 0) 10 [vR 21 190 0, vL y1, vS] [] (wi A 269 ((gi A 190 106).toNat) y1)
    else none := rfl

set_option maxRecDepth 100000 in
theorem q_X12_qPuts_10 (S SN : SX) (n : Nat) (y1 : Int) (A : AH)  : go true 3 S SN pb_X12_qPuts (n + 1) 10 [vR 21 190 0, vL y1, vS] [] A =
    go true 3 S SN pb_X12_qPuts (n + 0) 20 [vR 21 190 0, vL y1, vS] [] (wi A 190 106 (w32 ((gi A 190 106) + 1))) := rfl

set_option maxRecDepth 100000 in
theorem q_X12_qPuts_20 (S SN : SX) (n : Nat) (y1 : Int) (A : AH)  : go true 3 S SN pb_X12_qPuts (n + 1) 20 [vR 21 190 0, vL y1, vS] [] A =
    some (none, A) := rfl

set_option maxRecDepth 100000 in
theorem q_X12_qJoins_0 (S SN : SX) (n : Nat) (x1 : Int) (A : AH)  : go true 3 S SN pb_X12_qJoins (n + 1) 0 [vR 21 190 0, vI x1, vU, vU, vU, vU] [] A =
    if (0 : Int) ≤ w32 ((gi A 190 106) - 1) ∧ w32 ((gi A 190 106) - 1) < 1700 then
      if (0 : Int) ≤ w32 ((gi A 190 106) - 2) ∧ w32 ((gi A 190 106) - 2) < 1700 then
        go true 3 S SN pb_X12_qJoins (n + 0) 35 [vR 21 190 0, vI x1, vL (gi A 269 ((w32 ((gi A 190 106) - 1)).toNat)), vS, vL (gi A 269 ((w32 ((gi A 190 106) - 2)).toNat)), vS] [] (wi A 190 106 (w32 ((gi A 190 106) - 2)))
      else none
    else none := rfl

set_option maxRecDepth 100000 in
theorem q_X12_qJoins_35 (S SN : SX) (n : Nat) (x1 : Int) (y2 : Int) (y4 : Int) (A : AH)  : go true 3 S SN pb_X12_qJoins (n + 3) 35 [vR 21 190 0, vI x1, vL y2, vS, vL y4, vS] [] A =
    if x1 = 1 then
      cL (S 281 [vL (w64 (y4 + y2))] A) fun r2 A1 =>
      cV (S 283 [vR 21 190 0, vL r2] A1) fun A3 =>
      some (none, A3)
    else
    if x1 = 2 then
      cL (S 281 [vL (w64 (y4 - y2))] A) fun r5 A4 =>
      cV (S 283 [vR 21 190 0, vL r5] A4) fun A6 =>
      some (none, A6)
    else
    if x1 = 3 then
      cL (S 281 [vL (w64 (y4 * y2))] A) fun r8 A7 =>
      cV (S 283 [vR 21 190 0, vL r8] A7) fun A9 =>
      some (none, A9)
    else
    if x1 = 4 then
      cL (S 282 [vL y4, vL y2] A) fun r11 A10 =>
      cV (S 283 [vR 21 190 0, vL r11] A10) fun A12 =>
      some (none, A12)
    else
    if x1 = 5 then
      if (lcp y4 y2) < 0 then
        go true 3 S SN pb_X12_qJoins (n + 1) 161 [vR 21 190 0, vI x1, vL y2, vS, vL y4, vS] [vL y4, vR 21 190 0] A
      else
      go true 3 S SN pb_X12_qJoins (n + 0) 161 [vR 21 190 0, vI x1, vL y2, vS, vL y4, vS] [vL y2, vR 21 190 0] A
    else
    if x1 = 6 then
      if 0 < (lcp y4 y2) then
        go true 3 S SN pb_X12_qJoins (n + 1) 181 [vR 21 190 0, vI x1, vL y2, vS, vL y4, vS] [vL y4, vR 21 190 0] A
      else
      go true 3 S SN pb_X12_qJoins (n + 0) 181 [vR 21 190 0, vI x1, vL y2, vS, vL y4, vS] [vL y2, vR 21 190 0] A
    else
    if x1 = 7 then
      if (lcp y4 y2) < 0 then
        go true 3 S SN pb_X12_qJoins (n + 1) 200 [vR 21 190 0, vI x1, vL y2, vS, vL y4, vS] [vL 1, vR 21 190 0] A
      else
      go true 3 S SN pb_X12_qJoins (n + 0) 200 [vR 21 190 0, vI x1, vL y2, vS, vL y4, vS] [vL 0, vR 21 190 0] A
    else
    if x1 = 8 then
      if 0 < (lcp y4 y2) then
        go true 3 S SN pb_X12_qJoins (n + 1) 219 [vR 21 190 0, vI x1, vL y2, vS, vL y4, vS] [vL 1, vR 21 190 0] A
      else
      go true 3 S SN pb_X12_qJoins (n + 0) 219 [vR 21 190 0, vI x1, vL y2, vS, vL y4, vS] [vL 0, vR 21 190 0] A
    else
    if x1 = 9 then
      if (lcp y4 y2) = 0 then
        go true 3 S SN pb_X12_qJoins (n + 1) 238 [vR 21 190 0, vI x1, vL y2, vS, vL y4, vS] [vL 1, vR 21 190 0] A
      else
      go true 3 S SN pb_X12_qJoins (n + 0) 238 [vR 21 190 0, vI x1, vL y2, vS, vL y4, vS] [vL 0, vR 21 190 0] A
    else
    if x1 = 10 then
      cV (S 283 [vR 21 190 0, vL (w64 (y4 * y2))] A) fun A13 =>
      some (none, A13)
    else
    if 0 < (lcp (w64 (y4 + y2)) 0) then
      go true 3 S SN pb_X12_qJoins (n + 1) 270 [vR 21 190 0, vI x1, vL y2, vS, vL y4, vS] [vL 1, vR 21 190 0] A
    else
    go true 3 S SN pb_X12_qJoins (n + 0) 270 [vR 21 190 0, vI x1, vL y2, vS, vL y4, vS] [vL 0, vR 21 190 0] A := rfl

set_option maxRecDepth 100000 in
theorem q_X12_qJoins_161 (S SN : SX) (n : Nat) (x1 : Int) (y2 : Int) (y4 : Int) (sy0 : Int) (A : AH)  : go true 3 S SN pb_X12_qJoins (n + 2) 161 [vR 21 190 0, vI x1, vL y2, vS, vL y4, vS] [vL sy0, vR 21 190 0] A =
    cV (S 283 [vR 21 190 0, vL sy0] A) fun A1 =>
    some (none, A1) := rfl

set_option maxRecDepth 100000 in
theorem q_X12_qJoins_181 (S SN : SX) (n : Nat) (x1 : Int) (y2 : Int) (y4 : Int) (sy0 : Int) (A : AH)  : go true 3 S SN pb_X12_qJoins (n + 2) 181 [vR 21 190 0, vI x1, vL y2, vS, vL y4, vS] [vL sy0, vR 21 190 0] A =
    cV (S 283 [vR 21 190 0, vL sy0] A) fun A1 =>
    some (none, A1) := rfl

set_option maxRecDepth 100000 in
theorem q_X12_qJoins_200 (S SN : SX) (n : Nat) (x1 : Int) (y2 : Int) (y4 : Int) (sy0 : Int) (A : AH)  : go true 3 S SN pb_X12_qJoins (n + 2) 200 [vR 21 190 0, vI x1, vL y2, vS, vL y4, vS] [vL sy0, vR 21 190 0] A =
    cV (S 283 [vR 21 190 0, vL sy0] A) fun A1 =>
    some (none, A1) := rfl

set_option maxRecDepth 100000 in
theorem q_X12_qJoins_219 (S SN : SX) (n : Nat) (x1 : Int) (y2 : Int) (y4 : Int) (sy0 : Int) (A : AH)  : go true 3 S SN pb_X12_qJoins (n + 2) 219 [vR 21 190 0, vI x1, vL y2, vS, vL y4, vS] [vL sy0, vR 21 190 0] A =
    cV (S 283 [vR 21 190 0, vL sy0] A) fun A1 =>
    some (none, A1) := rfl

set_option maxRecDepth 100000 in
theorem q_X12_qJoins_238 (S SN : SX) (n : Nat) (x1 : Int) (y2 : Int) (y4 : Int) (sy0 : Int) (A : AH)  : go true 3 S SN pb_X12_qJoins (n + 2) 238 [vR 21 190 0, vI x1, vL y2, vS, vL y4, vS] [vL sy0, vR 21 190 0] A =
    cV (S 283 [vR 21 190 0, vL sy0] A) fun A1 =>
    some (none, A1) := rfl

set_option maxRecDepth 100000 in
theorem q_X12_qJoins_270 (S SN : SX) (n : Nat) (x1 : Int) (y2 : Int) (y4 : Int) (sy0 : Int) (A : AH)  : go true 3 S SN pb_X12_qJoins (n + 2) 270 [vR 21 190 0, vI x1, vL y2, vS, vL y4, vS] [vL sy0, vR 21 190 0] A =
    cV (S 283 [vR 21 190 0, vL sy0] A) fun A1 =>
    some (none, A1) := rfl

set_option maxRecDepth 100000 in
theorem q_X12_qPartOf_0 (S SN : SX) (n : Nat) (x1 : Int) (x2 : Int) (A : AH)  : go true 1 S SN pb_X12_qPartOf (n + 2) 0 [vR 21 190 0, vI x1, vI x2] [] A =
    if x1 = 0 then
      cI (S 203 [vR 21 190 0, vI x2] A) fun r2 A1 =>
      some (some (vL r2), A1)
    else
    if x1 = 1 then
      cI (S 204 [vR 21 190 0, vI x2] A) fun r4 A3 =>
      some (some (vL r4), A3)
    else
    if x1 = 2 then
      cI (S 207 [vR 21 190 0, vI x2] A) fun r6 A5 =>
      some (some (vL r6), A5)
    else
    if x1 = 3 then
      cI (S 208 [vR 21 190 0, vI x2] A) fun r8 A7 =>
      some (some (vL r8), A7)
    else
    if x1 = 4 then
      cI (S 209 [vR 21 190 0, vI x2] A) fun r10 A9 =>
      some (some (vL r10), A9)
    else
    if x1 = 5 then
      cI (S 199 [vR 21 190 0, vI x2] A) fun r12 A11 =>
      cI (S 210 [vR 21 190 0, vI r12, vI (gi A11 237 0)] A11) fun r14 A13 =>
      some (some (vL r14), A13)
    else
    if x1 = 6 then
      cI (S 199 [vR 21 190 0, vI x2] A) fun r16 A15 =>
      some (some (vL r16), A15)
    else
    if x1 = 7 then
      some (some (vL (gi A 237 0)), A)
    else
    if x1 = 8 then
      some (some (vL x2), A)
    else
    cI (S 205 [vR 21 190 0, vI x2] A) fun r18 A17 =>
    some (some (vL r18), A17) := rfl

set_option maxRecDepth 100000 in
theorem q_X12_qOf_0 (S SN : SX) (n : Nat) (x1 : Int) (y2 : Int) (x4 : Int) (A : AH)  : go true 1 S SN pb_X12_qOf (n + 3) 0 [vR 21 190 0, vI x1, vL y2, vS, vI x4] [] A =
    cI (S 149 [vL y2, vL 0, vL 15] A) fun r2 A1 =>
    if r2 = 0 then
      go true 1 S SN pb_X12_qOf (n + 1) 47 [vR 21 190 0, vI x1, vL y2, vS, vI x4] [] A1
    else
    cI (S 200 [vR 21 190 0, vI (w32 y2)] A1) fun r4 A3 =>
    if r4 = 0 then
      go true 1 S SN pb_X12_qOf (n + 1) 47 [vR 21 190 0, vI x1, vL y2, vS, vI x4] [] A3
    else
    cI (S 206 [vR 21 190 0, vI x4, vI (w32 y2)] A3) fun r6 A5 =>
    if r6 = 0 then
      go true 1 S SN pb_X12_qOf (n + 1) 47 [vR 21 190 0, vI x1, vL y2, vS, vI x4] [] A5
    else
    some (some (vL 1), A5) := rfl

set_option maxRecDepth 100000 in
theorem q_X12_qOf_47 (S SN : SX) (n : Nat) (x1 : Int) (y2 : Int) (x4 : Int) (A : AH)  : go true 1 S SN pb_X12_qOf (n + 2) 47 [vR 21 190 0, vI x1, vL y2, vS, vI x4] [] A =
    some (some (vL 0), A) := rfl

set_option maxRecDepth 100000 in
theorem q_X12_qTold_0 (S SN : SX) (n : Nat) (x1 : Int) (A : AH)  : go true 1 S SN pb_X12_qTold (n + 1) 0 [vR 21 190 0, vI x1, vU, vU] [] A =
    go true 1 S SN pb_X12_qTold (n + 0) 7 [vR 21 190 0, vI x1, vI 0, vU] [] (wi A 190 106 0) := rfl

set_option maxRecDepth 100000 in
theorem q_X12_qTold_7 (S SN : SX) (n : Nat) (x1 : Int) (x2 : Int) (u3 : AV) (A : AH)  : go true 1 S SN pb_X12_qTold (n + 2) 7 [vR 21 190 0, vI x1, vI x2, u3] [] A =
    if x2 < (gi A 190 100) then
      if (0 : Int) ≤ x2 ∧ x2 < 1700 then
        if (gi A 267 x2.toNat) < 1000 then
          go true 1 S SN pb_X12_qTold (n + 1) 42 [vR 21 190 0, vI x1, vI x2, vI (gi A 267 x2.toNat)] [] A
        else
        cV (S 283 [vR 21 190 0, vL (w32 ((gi A 267 x2.toNat) - 1000))] A) fun A1 =>
        go true 1 S SN pb_X12_qTold (n + 1) 162 [vR 21 190 0, vI x1, vI x2, vI (gi A 267 x2.toNat)] [] A1
      else none
    else
    some (some (vL (gi A 269 0)), A) := rfl

set_option maxRecDepth 100000 in
theorem q_X12_qTold_42 (S SN : SX) (n : Nat) (x1 : Int) (x2 : Int) (x3 : Int) (A : AH)  : go true 1 S SN pb_X12_qTold (n + 2) 42 [vR 21 190 0, vI x1, vI x2, vI x3] [] A =
    if x3 < 60 then
      if x3 < 40 then
        go true 1 S SN pb_X12_qTold (n + 0) 110 [vR 21 190 0, vI x1, vI x2, vI x3] [] A
      else
      cL (S 285 [vR 21 190 0, vI (w32 (x3 - 40)), vI x1] A) fun r6 A5 =>
      cL (S 281 [vL r6] A5) fun r8 A7 =>
      cV (S 283 [vR 21 190 0, vL r8] A7) fun A9 =>
      go true 1 S SN pb_X12_qTold (n + 0) 162 [vR 21 190 0, vI x1, vI x2, vI x3] [] A9
    else
    if (0 : Int) ≤ w32 ((gi A 190 106) - 1) ∧ w32 ((gi A 190 106) - 1) < 1700 then
      cL (S 286 [vR 21 190 0, vI (w32 (x3 - 60)), vL (gi A 269 ((w32 ((gi A 190 106) - 1)).toNat)), vI x1] A) fun r2 A1 =>
      cL (S 281 [vL r2] A1) fun r4 A3 =>
      if (0 : Int) ≤ w32 ((gi A 190 106) - 1) ∧ w32 ((gi A 190 106) - 1) < 1700 then
        go true 1 S SN pb_X12_qTold (n + 1) 82 [vR 21 190 0, vI x1, vI x2, vI x3] [] (wi A3 269 ((w32 ((gi A 190 106) - 1)).toNat) r4)
      else none
    else none := rfl

set_option maxRecDepth 100000 in
theorem q_X12_qTold_82 (S SN : SX) (n : Nat) (x1 : Int) (x2 : Int) (x3 : Int) (A : AH)  : go true 1 S SN pb_X12_qTold (n + 1) 82 [vR 21 190 0, vI x1, vI x2, vI x3] [] A =
    go true 1 S SN pb_X12_qTold (n + 0) 162 [vR 21 190 0, vI x1, vI x2, vI x3] [] A := rfl

set_option maxRecDepth 100000 in
theorem q_X12_qTold_110 (S SN : SX) (n : Nat) (x1 : Int) (x2 : Int) (x3 : Int) (A : AH)  : go true 1 S SN pb_X12_qTold (n + 3) 110 [vR 21 190 0, vI x1, vI x2, vI x3] [] A =
    if x3 = 13 then
      cV (S 283 [vR 21 190 0, vL 1] A) fun A1 =>
      go true 1 S SN pb_X12_qTold (n + 2) 162 [vR 21 190 0, vI x1, vI x2, vI x3] [] A1
    else
    if x3 = 12 then
      if (0 : Int) ≤ w32 ((gi A 190 106) - 1) ∧ w32 ((gi A 190 106) - 1) < 1700 then
        if (0 : Int) ≤ w32 ((gi A 190 106) - 1) ∧ w32 ((gi A 190 106) - 1) < 1700 then
          go true 1 S SN pb_X12_qTold (n + 1) 154 [vR 21 190 0, vI x1, vI x2, vI x3] [] (wi A 269 ((w32 ((gi A 190 106) - 1)).toNat) (w64 (1 - (gi A 269 ((w32 ((gi A 190 106) - 1)).toNat)))))
        else none
      else none
    else
    cV (S 284 [vR 21 190 0, vI x3] A) fun A2 =>
    go true 1 S SN pb_X12_qTold (n + 0) 162 [vR 21 190 0, vI x1, vI x2, vI x3] [] A2 := rfl

set_option maxRecDepth 100000 in
theorem q_X12_qTold_154 (S SN : SX) (n : Nat) (x1 : Int) (x2 : Int) (x3 : Int) (A : AH)  : go true 1 S SN pb_X12_qTold (n + 1) 154 [vR 21 190 0, vI x1, vI x2, vI x3] [] A =
    go true 1 S SN pb_X12_qTold (n + 0) 162 [vR 21 190 0, vI x1, vI x2, vI x3] [] A := rfl

set_option maxRecDepth 100000 in
theorem q_X12_qTold_162 (S SN : SX) (n : Nat) (x1 : Int) (x2 : Int) (x3 : Int) (A : AH)  : go true 1 S SN pb_X12_qTold (n + 1) 162 [vR 21 190 0, vI x1, vI x2, vI x3] [] A =
    go true 1 S SN pb_X12_qTold (n + 0) 7 [vR 21 190 0, vI x1, vI (w32 (x2 + 1)), vI x3] [] A := rfl

set_option maxRecDepth 100000 in
theorem q_X12_qKind_0 (S SN : SX) (n : Nat)  (A : AH)  : go true 0 S SN pb_X12_qKind (n + 5) 0 [vR 21 190 0, vU] [] A =
    cI (S 157 [vR 21 190 0, vR 32 244 5] A) fun r2 A1 =>
    if r2 = 0 then
      cI (S 157 [vR 21 190 0, vR 32 245 4] A1) fun r4 A3 =>
      if r4 = 0 then
        cI (S 157 [vR 21 190 0, vR 32 246 5] A3) fun r6 A5 =>
        if r6 = 0 then
          cI (S 157 [vR 21 190 0, vR 32 247 5] A5) fun r8 A7 =>
          if r8 = 0 then
            cI (S 157 [vR 21 190 0, vR 32 248 4] A7) fun r10 A9 =>
            if r10 = 0 then
              go true 0 S SN pb_X12_qKind (n + 0) 75 [vR 21 190 0, vU] [] A9
            else
            go true 0 S SN pb_X12_qKind (n + 0) 76 [vR 21 190 0, vU] [vI 4] A9
          else
          go true 0 S SN pb_X12_qKind (n + 1) 76 [vR 21 190 0, vU] [vI 3] A7
        else
        go true 0 S SN pb_X12_qKind (n + 2) 76 [vR 21 190 0, vU] [vI 2] A5
      else
      go true 0 S SN pb_X12_qKind (n + 3) 76 [vR 21 190 0, vU] [vI 1] A3
    else
    go true 0 S SN pb_X12_qKind (n + 4) 76 [vR 21 190 0, vU] [vI 0] A1 := rfl

set_option maxRecDepth 100000 in
theorem q_X12_qKind_75 (S SN : SX) (n : Nat) (u1 : AV) (A : AH)  : go true 0 S SN pb_X12_qKind (n + 1) 75 [vR 21 190 0, u1] [] A =
    go true 0 S SN pb_X12_qKind (n + 0) 76 [vR 21 190 0, u1] [vI 5] A := rfl

set_option maxRecDepth 100000 in
theorem q_X12_qKind_76 (S SN : SX) (n : Nat) (u1 : AV) (sx0 : Int) (A : AH)  : go true 0 S SN pb_X12_qKind (n + 2) 76 [vR 21 190 0, u1] [vI sx0] A =
    if sx0 = 5 then
      cV (S 158 [vR 21 190 0, vR 32 249 5] A) fun A1 =>
      some (some (vI sx0), A1)
    else
    some (some (vI sx0), A) := rfl

set_option maxRecDepth 100000 in
theorem q_X12_qTakes_0 (S SN : SX) (n : Nat) (x1 : Int) (y2 : Int) (x4 : Int) (A : AH)  : go true 3 S SN pb_X12_qTakes (n + 1) 0 [vR 21 190 0, vI x1, vL y2, vS, vI x4, vU] [] A =
    if x1 < 3 then
      if (lcp y2 1) = 0 then
        go true 3 S SN pb_X12_qTakes (n + 0) 16 [vR 21 190 0, vI x1, vL y2, vS, vI x4, vU] [vI 1] A
      else
      go true 3 S SN pb_X12_qTakes (n + 0) 15 [vR 21 190 0, vI x1, vL y2, vS, vI x4, vU] [] A
    else
    go true 3 S SN pb_X12_qTakes (n + 0) 15 [vR 21 190 0, vI x1, vL y2, vS, vI x4, vU] [] A := rfl

set_option maxRecDepth 100000 in
theorem q_X12_qTakes_15 (S SN : SX) (n : Nat) (x1 : Int) (y2 : Int) (x4 : Int) (u5 : AV) (A : AH)  : go true 3 S SN pb_X12_qTakes (n + 1) 15 [vR 21 190 0, vI x1, vL y2, vS, vI x4, u5] [] A =
    go true 3 S SN pb_X12_qTakes (n + 0) 16 [vR 21 190 0, vI x1, vL y2, vS, vI x4, u5] [vI 0] A := rfl

set_option maxRecDepth 100000 in
theorem q_X12_qTakes_16 (S SN : SX) (n : Nat) (x1 : Int) (y2 : Int) (x4 : Int) (u5 : AV) (sx0 : Int) (A : AH)  : go true 3 S SN pb_X12_qTakes (n + 1) 16 [vR 21 190 0, vI x1, vL y2, vS, vI x4, u5] [vI sx0] A =
    if x1 = 0 then
      if sx0 = 0 then
        go true 3 S SN pb_X12_qTakes (n + 0) 38 [vR 21 190 0, vI x1, vL y2, vS, vI x4, vI sx0] [] A
      else
      if (lcp (gi A 190 107) (-1)) = 0 then
        go true 3 S SN pb_X12_qTakes (n + 0) 48 [vR 21 190 0, vI x1, vL y2, vS, vI x4, vI sx0] [] A
      else
      go true 3 S SN pb_X12_qTakes (n + 0) 38 [vR 21 190 0, vI x1, vL y2, vS, vI x4, vI sx0] [] A
    else
    go true 3 S SN pb_X12_qTakes (n + 0) 38 [vR 21 190 0, vI x1, vL y2, vS, vI x4, vI sx0] [] A := rfl

set_option maxRecDepth 100000 in
theorem q_X12_qTakes_38 (S SN : SX) (n : Nat) (x1 : Int) (y2 : Int) (x4 : Int) (x5 : Int) (A : AH)  : go true 3 S SN pb_X12_qTakes (n + 1) 38 [vR 21 190 0, vI x1, vL y2, vS, vI x4, vI x5] [] A =
    if x1 = 1 then
      if x5 = 0 then
        go true 3 S SN pb_X12_qTakes (n + 0) 55 [vR 21 190 0, vI x1, vL y2, vS, vI x4, vI x5] [] A
      else
      go true 3 S SN pb_X12_qTakes (n + 0) 48 [vR 21 190 0, vI x1, vL y2, vS, vI x4, vI x5] [] A
    else
    go true 3 S SN pb_X12_qTakes (n + 0) 55 [vR 21 190 0, vI x1, vL y2, vS, vI x4, vI x5] [] A := rfl

set_option maxRecDepth 100000 in
theorem q_X12_qTakes_48 (S SN : SX) (n : Nat) (x1 : Int) (y2 : Int) (x4 : Int) (x5 : Int) (A : AH)  : go true 3 S SN pb_X12_qTakes (n + 1) 48 [vR 21 190 0, vI x1, vL y2, vS, vI x4, vI x5] [] A =
    go true 3 S SN pb_X12_qTakes (n + 0) 55 [vR 21 190 0, vI x1, vL y2, vS, vI x4, vI x5] [] (wi A 190 107 x4) := rfl

set_option maxRecDepth 100000 in
theorem q_X12_qTakes_55 (S SN : SX) (n : Nat) (x1 : Int) (y2 : Int) (x4 : Int) (x5 : Int) (A : AH)  : go true 3 S SN pb_X12_qTakes (n + 1) 55 [vR 21 190 0, vI x1, vL y2, vS, vI x4, vI x5] [] A =
    if x1 = 2 then
      if x5 = 0 then
        go true 3 S SN pb_X12_qTakes (n + 0) 75 [vR 21 190 0, vI x1, vL y2, vS, vI x4, vI x5] [] A
      else
      go true 3 S SN pb_X12_qTakes (n + 0) 75 [vR 21 190 0, vI x1, vL y2, vS, vI x4, vI x5] [] (wi A 190 107 (w64 ((gi A 190 107) + 1)))
    else
    go true 3 S SN pb_X12_qTakes (n + 0) 75 [vR 21 190 0, vI x1, vL y2, vS, vI x4, vI x5] [] A := rfl

set_option maxRecDepth 100000 in
theorem q_X12_qTakes_75 (S SN : SX) (n : Nat) (x1 : Int) (y2 : Int) (x4 : Int) (x5 : Int) (A : AH)  : go true 3 S SN pb_X12_qTakes (n + 1) 75 [vR 21 190 0, vI x1, vL y2, vS, vI x4, vI x5] [] A =
    if x1 = 3 then
      go true 3 S SN pb_X12_qTakes (n + 0) 90 [vR 21 190 0, vI x1, vL y2, vS, vI x4, vI x5] [] (wi A 190 107 (w64 ((gi A 190 107) + y2)))
    else
    go true 3 S SN pb_X12_qTakes (n + 0) 90 [vR 21 190 0, vI x1, vL y2, vS, vI x4, vI x5] [] A := rfl

set_option maxRecDepth 100000 in
theorem q_X12_qTakes_90 (S SN : SX) (n : Nat) (x1 : Int) (y2 : Int) (x4 : Int) (x5 : Int) (A : AH)  : go true 3 S SN pb_X12_qTakes (n + 2) 90 [vR 21 190 0, vI x1, vL y2, vS, vI x4, vI x5] [] A =
    if 3 < x1 then
      if (gi A 190 108) = 0 then
        if x1 = 4 then
          if 0 < (lcp y2 (gi A 190 107)) then
            go true 3 S SN pb_X12_qTakes (n + 1) 128 [vR 21 190 0, vI x1, vL y2, vS, vI x4, vI x5] [] A
          else
          go true 3 S SN pb_X12_qTakes (n + 1) 133 [vR 21 190 0, vI x1, vL y2, vS, vI x4, vI x5] [] A
        else
        if (lcp y2 (gi A 190 107)) < 0 then
          go true 3 S SN pb_X12_qTakes (n + 0) 128 [vR 21 190 0, vI x1, vL y2, vS, vI x4, vI x5] [] A
        else
        go true 3 S SN pb_X12_qTakes (n + 0) 133 [vR 21 190 0, vI x1, vL y2, vS, vI x4, vI x5] [] A
      else
      go true 3 S SN pb_X12_qTakes (n + 1) 128 [vR 21 190 0, vI x1, vL y2, vS, vI x4, vI x5] [] A
    else
    go true 3 S SN pb_X12_qTakes (n + 1) 133 [vR 21 190 0, vI x1, vL y2, vS, vI x4, vI x5] [] A := rfl

set_option maxRecDepth 100000 in
theorem q_X12_qTakes_128 (S SN : SX) (n : Nat) (x1 : Int) (y2 : Int) (x4 : Int) (x5 : Int) (A : AH)  : go true 3 S SN pb_X12_qTakes (n + 1) 128 [vR 21 190 0, vI x1, vL y2, vS, vI x4, vI x5] [] A =
    go true 3 S SN pb_X12_qTakes (n + 0) 133 [vR 21 190 0, vI x1, vL y2, vS, vI x4, vI x5] [] (wi A 190 107 y2) := rfl

set_option maxRecDepth 100000 in
theorem q_X12_qTakes_133 (S SN : SX) (n : Nat) (x1 : Int) (y2 : Int) (x4 : Int) (x5 : Int) (A : AH)  : go true 3 S SN pb_X12_qTakes (n + 1) 133 [vR 21 190 0, vI x1, vL y2, vS, vI x4, vI x5] [] A =
    some (none, wi A 190 108 0) := rfl

set_option maxRecDepth 100000 in
theorem q_X12_ask_0 (S SN : SX) (n : Nat)  (A : AH)  : go true 1 S SN pb_X12_ask (n + 2) 0 [vR 21 190 0, vU, vU] [] A =
    if (gi A 190 53) = 0 then
      go true 1 S SN pb_X12_ask (n + 1) 12 [vR 21 190 0, vU, vU] [] (wi A 190 1 0)
    else
    go true 1 S SN pb_X12_ask (n + 0) 29 [vR 21 190 0, vU, vU] [] (wi (wi A 190 3 (gi A 190 1)) 190 1 0) := rfl

set_option maxRecDepth 100000 in
theorem q_X12_ask_12 (S SN : SX) (n : Nat) (u1 : AV) (u2 : AV) (A : AH)  : go true 1 S SN pb_X12_ask (n + 1) 12 [vR 21 190 0, u1, u2] [] A =
    some (some (vL (-1000000000000000)), A) := rfl

set_option maxRecDepth 100000 in
theorem q_X12_ask_29 (S SN : SX) (n : Nat) (u1 : AV) (u2 : AV) (A : AH)  : go true 1 S SN pb_X12_ask (n + 1) 29 [vR 21 190 0, u1, u2] [] A =
    go true 1 S SN pb_X12_ask (n + 0) 39 [vR 21 190 0, u1, u2] [] (wi (wi A 190 2 0) 190 4 (-1)) := rfl

set_option maxRecDepth 100000 in
theorem q_X12_ask_39 (S SN : SX) (n : Nat) (u1 : AV) (u2 : AV) (A : AH)  : go true 1 S SN pb_X12_ask (n + 1) 39 [vR 21 190 0, u1, u2] [] A =
    go true 1 S SN pb_X12_ask (n + 0) 49 [vR 21 190 0, u1, u2] [] (wi (wi A 190 5 0) 190 6 (-1)) := rfl

set_option maxRecDepth 100000 in
theorem q_X12_ask_49 (S SN : SX) (n : Nat) (u1 : AV) (u2 : AV) (A : AH)  : go true 1 S SN pb_X12_ask (n + 1) 49 [vR 21 190 0, u1, u2] [] A =
    go true 1 S SN pb_X12_ask (n + 0) 59 [vR 21 190 0, u1, u2] [] (wi (wi A 190 100 0) 190 102 0) := rfl

set_option maxRecDepth 100000 in
theorem q_X12_ask_59 (S SN : SX) (n : Nat) (u1 : AV) (u2 : AV) (A : AH)  : go true 1 S SN pb_X12_ask (n + 1) 59 [vR 21 190 0, u1, u2] [] A =
    go true 1 S SN pb_X12_ask (n + 0) 69 [vR 21 190 0, u1, u2] [] (wi (wi A 190 103 0) 190 104 0) := rfl

set_option maxRecDepth 100000 in
theorem q_X12_ask_69 (S SN : SX) (n : Nat) (u1 : AV) (u2 : AV) (A : AH)  : go true 1 S SN pb_X12_ask (n + 1) 69 [vR 21 190 0, u1, u2] [] A =
    cI (S 288 [vR 21 190 0] A) fun r2 A1 =>
    if (gi A1 190 5) = 0 then
      if r2 < 3 then
        cV (S 279 [vR 21 190 0] A1) fun A3 =>
        go true 1 S SN pb_X12_ask (n + 0) 104 [vR 21 190 0, vI r2, u2] [] A3
      else
      go true 1 S SN pb_X12_ask (n + 0) 93 [vR 21 190 0, vI r2, u2] [] A1
    else
    go true 1 S SN pb_X12_ask (n + 0) 93 [vR 21 190 0, vI r2, u2] [] A1 := rfl

set_option maxRecDepth 100000 in
theorem q_X12_ask_93 (S SN : SX) (n : Nat) (x1 : Int) (u2 : AV) (A : AH)  : go true 1 S SN pb_X12_ask (n + 1) 93 [vR 21 190 0, vI x1, u2] [] A =
    if (gi A 190 5) = 0 then
      cV (S 275 [vR 21 190 0] A) fun A1 =>
      go true 1 S SN pb_X12_ask (n + 0) 104 [vR 21 190 0, vI x1, u2] [] A1
    else
    go true 1 S SN pb_X12_ask (n + 0) 104 [vR 21 190 0, vI x1, u2] [] A := rfl

set_option maxRecDepth 100000 in
theorem q_X12_ask_104 (S SN : SX) (n : Nat) (x1 : Int) (u2 : AV) (A : AH)  : go true 1 S SN pb_X12_ask (n + 1) 104 [vR 21 190 0, vI x1, u2] [] A =
    if (gi A 190 5) = 0 then
      cI (S 155 [vR 21 190 0] A) fun r2 A1 =>
      if r2 = (-1) then
        go true 1 S SN pb_X12_ask (n + 0) 128 [vR 21 190 0, vI x1, u2] [] A1
      else
      cV (S 152 [vR 21 190 0, vI 1, vI (gi A1 190 2)] A1) fun A3 =>
      go true 1 S SN pb_X12_ask (n + 0) 128 [vR 21 190 0, vI x1, u2] [] A3
    else
    go true 1 S SN pb_X12_ask (n + 0) 128 [vR 21 190 0, vI x1, u2] [] A := rfl

set_option maxRecDepth 100000 in
theorem q_X12_ask_128 (S SN : SX) (n : Nat) (x1 : Int) (u2 : AV) (A : AH)  : go true 1 S SN pb_X12_ask (n + 1) 128 [vR 21 190 0, vI x1, u2] [] A =
    go true 1 S SN pb_X12_ask (n + 0) 144 [vR 21 190 0, vI x1, u2] [] (wi (wi A 190 7 (gi A 190 5)) 190 8 (gi (wi A 190 7 (gi A 190 5)) 190 6)) := rfl

set_option maxRecDepth 100000 in
theorem q_X12_ask_144 (S SN : SX) (n : Nat) (x1 : Int) (u2 : AV) (A : AH)  : go true 1 S SN pb_X12_ask (n + 3) 144 [vR 21 190 0, vI x1, u2] [] A =
    if (gi A 190 5) = 0 then
      if x1 < 2 then
        go true 1 S SN pb_X12_ask (n + 1) 168 [vR 21 190 0, vI x1, u2] [vL (-1), vR 21 190 0] A
      else
      go true 1 S SN pb_X12_ask (n + 0) 168 [vR 21 190 0, vI x1, u2] [vL 0, vR 21 190 0] A
    else
    some (some (vL (-1000000000000000)), A) := rfl

set_option maxRecDepth 100000 in
theorem q_X12_ask_168 (S SN : SX) (n : Nat) (x1 : Int) (u2 : AV) (sy0 : Int) (A : AH)  : go true 1 S SN pb_X12_ask (n + 1) 168 [vR 21 190 0, vI x1, u2] [vL sy0, vR 21 190 0] A =
    go true 1 S SN pb_X12_ask (n + 0) 178 [vR 21 190 0, vI x1, vI 0] [] (wi (wi A 190 107 sy0) 190 108 1) := rfl

set_option maxRecDepth 100000 in
theorem q_X12_ask_178 (S SN : SX) (n : Nat) (x1 : Int) (x2 : Int) (A : AH)  : go true 1 S SN pb_X12_ask (n + 2) 178 [vR 21 190 0, vI x1, vI x2] [] A =
    if x2 < 16 then
      cI (S 200 [vR 21 190 0, vI x2] A) fun r2 A1 =>
      if r2 = 0 then
        go true 1 S SN pb_X12_ask (n + 1) 203 [vR 21 190 0, vI x1, vI x2] [] A1
      else
      cL (S 287 [vR 21 190 0, vI x2] A1) fun r4 A3 =>
      cV (S 289 [vR 21 190 0, vI x1, vL r4, vI x2] A3) fun A5 =>
      go true 1 S SN pb_X12_ask (n + 1) 203 [vR 21 190 0, vI x1, vI x2] [] A5
    else
    some (some (vL (gi A 190 107)), A) := rfl

set_option maxRecDepth 100000 in
theorem q_X12_ask_203 (S SN : SX) (n : Nat) (x1 : Int) (x2 : Int) (A : AH)  : go true 1 S SN pb_X12_ask (n + 1) 203 [vR 21 190 0, vI x1, vI x2] [] A =
    go true 1 S SN pb_X12_ask (n + 0) 178 [vR 21 190 0, vI x1, vI (w32 (x2 + 1))] [] A := rfl

set_option maxRecDepth 100000 in
theorem q_X12_checked_0 (S SN : SX) (n : Nat) (a0 : Nat) (n0 : Nat) (x1 : Int) (A : AH) (ha0 : a0 ≠ 0) : go true 0 S SN pb_X12_checked (n + 1) 0 [vR 30 a0 n0, vI x1, vU, vU] [] A =
    go true 0 S SN pb_X12_checked (n + 0) 6 [vR 30 a0 n0, vI x1, vI 229, vI 0] [] A := by
  obtain ⟨a0, rfl⟩ := Nat.exists_eq_succ_of_ne_zero ha0
  rfl

set_option maxRecDepth 100000 in
theorem q_X12_checked_6 (S SN : SX) (n : Nat) (a0 : Nat) (n0 : Nat) (x1 : Int) (x2 : Int) (x3 : Int) (A : AH) (ha0 : a0 ≠ 0) : go true 0 S SN pb_X12_checked (n + 2) 6 [vR 30 a0 n0, vI x1, vI x2, vI x3] [] A =
    if x3 < x1 then
      if (0 : Int) ≤ x3 ∧ x3 < (n0 : Int) then
        go true 0 S SN pb_X12_checked (n + 1) 6 [vR 30 a0 n0, vI x1, vI ((w32 ((w32 (3 * x2)) + (gi A a0 x3.toNat))).tmod 251), vI (w32 (x3 + 1))] [] A
      else none
    else
    some (some (vI x2), A) := by
  obtain ⟨a0, rfl⟩ := Nat.exists_eq_succ_of_ne_zero ha0
  rfl

set_option maxRecDepth 100000 in
theorem q_X12_writes_0 (S SN : SX) (n : Nat) (x1 : Int) (A : AH)  : go true 3 S SN pb_X12_writes (n + 1) 0 [vR 21 190 0, vI x1] [] A =
    if (0 : Int) ≤ gi A 190 110 ∧ gi A 190 110 < 27 then
      go true 3 S SN pb_X12_writes (n + 0) 10 [vR 21 190 0, vI x1] [] (wi A 270 ((gi A 190 110).toNat) x1)
    else none := rfl

set_option maxRecDepth 100000 in
theorem q_X12_writes_10 (S SN : SX) (n : Nat) (x1 : Int) (A : AH)  : go true 3 S SN pb_X12_writes (n + 1) 10 [vR 21 190 0, vI x1] [] A =
    go true 3 S SN pb_X12_writes (n + 0) 20 [vR 21 190 0, vI x1] [] (wi A 190 110 (w32 ((gi A 190 110) + 1))) := rfl

set_option maxRecDepth 100000 in
theorem q_X12_writes_20 (S SN : SX) (n : Nat) (x1 : Int) (A : AH)  : go true 3 S SN pb_X12_writes (n + 1) 20 [vR 21 190 0, vI x1] [] A =
    some (none, A) := rfl

set_option maxRecDepth 100000 in
theorem q_X12_image_0 (S SN : SX) (n : Nat)  (A : AH)  : go true 0 S SN pb_X12_image (n + 1) 0 [vR 21 190 0, vU, vU] [] A =
    cV (S 292 [vR 21 190 0, vI (w32 ((gi (wi A 190 110 0) 237 0).tdiv 256))] (wi A 190 110 0)) fun A1 =>
    cV (S 292 [vR 21 190 0, vI ((gi A1 237 0).tmod 256)] A1) fun A2 =>
    go true 0 S SN pb_X12_image (n + 0) 46 [vR 21 190 0, vI (w32 ((w32 ((gi (wi A 190 110 0) 237 1) + 99999)) + 1)), vU] [] A2 := rfl

set_option maxRecDepth 100000 in
theorem q_X12_image_46 (S SN : SX) (n : Nat) (x1 : Int) (u2 : AV) (A : AH)  : go true 0 S SN pb_X12_image (n + 1) 46 [vR 21 190 0, vI x1, u2] [] A =
    cV (S 292 [vR 21 190 0, vI (w32 (x1.tdiv 65536))] A) fun A1 =>
    cV (S 292 [vR 21 190 0, vI ((w32 (x1.tdiv 256)).tmod 256)] A1) fun A2 =>
    cV (S 292 [vR 21 190 0, vI (x1.tmod 256)] A2) fun A3 =>
    cV (S 292 [vR 21 190 0, vI (w32 ((gi A3 237 2) + 1))] A3) fun A4 =>
    go true 0 S SN pb_X12_image (n + 0) 89 [vR 21 190 0, vI x1, u2] [] A4 := rfl

set_option maxRecDepth 100000 in
theorem q_X12_image_89 (S SN : SX) (n : Nat) (x1 : Int) (u2 : AV) (A : AH)  : go true 0 S SN pb_X12_image (n + 1) 89 [vR 21 190 0, vI x1, u2] [] A =
    go true 0 S SN pb_X12_image (n + 0) 91 [vR 21 190 0, vI x1, vI 0] [] A := rfl

set_option maxRecDepth 100000 in
theorem q_X12_image_91 (S SN : SX) (n : Nat) (x1 : Int) (x2 : Int) (A : AH)  : go true 0 S SN pb_X12_image (n + 2) 91 [vR 21 190 0, vI x1, vI x2] [] A =
    cI (S 195 [vR 21 190 0] A) fun r2 A1 =>
    if x2 < r2 then
      cI (S 199 [vR 21 190 0, vI x2] A1) fun r4 A3 =>
      cV (S 292 [vR 21 190 0, vI r4] A3) fun A5 =>
      go true 0 S SN pb_X12_image (n + 1) 91 [vR 21 190 0, vI x1, vI (w32 (x2 + 1))] [] A5
    else
    go true 0 S SN pb_X12_image (n + 0) 116 [vR 21 190 0, vI x1, vI 0] [] A1 := rfl

set_option maxRecDepth 100000 in
theorem q_X12_image_116 (S SN : SX) (n : Nat) (x1 : Int) (x2 : Int) (A : AH)  : go true 0 S SN pb_X12_image (n + 2) 116 [vR 21 190 0, vI x1, vI x2] [] A =
    cI (S 196 [vR 21 190 0] A) fun r2 A1 =>
    if x2 < r2 then
      cI (S 199 [vR 21 190 0, vI (w32 (10 + x2))] A1) fun r4 A3 =>
      cV (S 292 [vR 21 190 0, vI (w32 (r4 + 1))] A3) fun A5 =>
      if (0 : Int) ≤ w32 (19 + x2) ∧ w32 (19 + x2) < 146 then
        cV (S 292 [vR 21 190 0, vI (gi A5 237 ((w32 (19 + x2)).toNat))] A5) fun A6 =>
        go true 0 S SN pb_X12_image (n + 1) 154 [vR 21 190 0, vI x1, vI (w32 (x2 + 1))] [] A6
      else none
    else
    cI (S 291 [vR 30 270 27, vI (gi A1 190 110)] A1) fun r8 A7 =>
    cV (S 292 [vR 21 190 0, vI r8] A7) fun A9 =>
    some (some (vI (gi A9 190 110)), A9) := rfl

set_option maxRecDepth 100000 in
theorem q_X12_image_154 (S SN : SX) (n : Nat) (x1 : Int) (x2 : Int) (A : AH)  : go true 0 S SN pb_X12_image (n + 1) 154 [vR 21 190 0, vI x1, vI x2] [] A =
    go true 0 S SN pb_X12_image (n + 0) 116 [vR 21 190 0, vI x1, vI x2] [] A := rfl

set_option maxRecDepth 100000 in
theorem q_X12_octet_0 (S SN : SX) (n : Nat) (x1 : Int) (A : AH)  : go true 0 S SN pb_X12_octet (n + 2) 0 [vR 21 190 0, vI x1] [] A =
    if x1 < 0 then
      go true 0 S SN pb_X12_octet (n + 1) 21 [vR 21 190 0, vI x1] [] A
    else
    if x1 < (gi A 190 110) then
      if (0 : Int) ≤ x1 ∧ x1 < 27 then
        some (some (vI (gi A 270 x1.toNat)), A)
      else none
    else
    go true 0 S SN pb_X12_octet (n + 1) 21 [vR 21 190 0, vI x1] [] A := rfl

set_option maxRecDepth 100000 in
theorem q_X12_octet_21 (S SN : SX) (n : Nat) (x1 : Int) (A : AH)  : go true 0 S SN pb_X12_octet (n + 2) 21 [vR 21 190 0, vI x1] [] A =
    some (some (vI (-1)), A) := rfl

set_option maxRecDepth 100000 in
theorem q_X12_scaleTold_0 (S SN : SX) (n : Nat)  (A : AH)  : go true 0 S SN pb_X12_scaleTold (n + 1) 0 [vR 21 190 0] [] A =
    some (some (vI (w32 ((w32 ((w32 ((w32 ((w32 (65536 * (gi A 191 2))) + (w32 (256 * (gi A 191 3))))) + (gi A 191 4))) - 99999)) - 1))), A) := rfl

set_option maxRecDepth 100000 in
theorem q_X12_seatTold_0 (S SN : SX) (n : Nat) (x1 : Int) (A : AH)  : go true 0 S SN pb_X12_seatTold (n + 3) 0 [vR 21 190 0, vI x1, vU] [] A =
    cI (S 195 [vR 21 190 0] A) fun r2 A1 =>
    if x1 < r2 then
      if (0 : Int) ≤ w32 (6 + x1) ∧ w32 (6 + x1) < 1600 then
        some (some (vI (gi A1 191 ((w32 (6 + x1)).toNat))), A1)
      else none
    else
    if (0 : Int) ≤ w32 ((w32 (6 + r2)) + (w32 (2 * (w32 (x1 - r2))))) ∧ w32 ((w32 (6 + r2)) + (w32 (2 * (w32 (x1 - r2))))) < 1600 then
      some (some (vI (w32 ((gi A1 191 ((w32 ((w32 (6 + r2)) + (w32 (2 * (w32 (x1 - r2)))))).toNat)) - 1))), A1)
    else none := rfl

set_option maxRecDepth 100000 in
theorem q_X12_areSeatsTold_0 (S SN : SX) (n : Nat)  (A : AH)  : go true 2 S SN pb_X12_areSeatsTold (n + 1) 0 [vR 21 190 0, vU, vU, vU] [] A =
    cI (S 195 [vR 21 190 0] A) fun r2 A1 =>
    cI (S 196 [vR 21 190 0] A1) fun r4 A3 =>
    go true 2 S SN pb_X12_areSeatsTold (n + 0) 12 [vR 21 190 0, vI (w32 (r2 + r4)), vI 0, vU] [] A3 := rfl

set_option maxRecDepth 100000 in
theorem q_X12_areSeatsTold_12 (S SN : SX) (n : Nat) (x1 : Int) (x2 : Int) (u3 : AV) (A : AH)  : go true 2 S SN pb_X12_areSeatsTold (n + 2) 12 [vR 21 190 0, vI x1, vI x2, u3] [] A =
    if x2 < x1 then
      cI (S 296 [vR 21 190 0, vI x2] A) fun r2 A1 =>
      cI (S 194 [vR 21 190 0] A1) fun r4 A3 =>
      if r2 < r4 then
        go true 2 S SN pb_X12_areSeatsTold (n + 0) 33 [vR 21 190 0, vI x1, vI x2, vI 0] [] A3
      else
      some (some (vI 0), A3)
    else
    go true 2 S SN pb_X12_areSeatsTold (n + 0) 76 [vR 21 190 0, vI x1, vI 0, u3] [] A := rfl

set_option maxRecDepth 100000 in
theorem q_X12_areSeatsTold_33 (S SN : SX) (n : Nat) (x1 : Int) (x2 : Int) (x3 : Int) (A : AH)  : go true 2 S SN pb_X12_areSeatsTold (n + 2) 33 [vR 21 190 0, vI x1, vI x2, vI x3] [] A =
    if x3 < x2 then
      cI (S 296 [vR 21 190 0, vI x2] A) fun r2 A1 =>
      if r2 = (-1) then
        go true 2 S SN pb_X12_areSeatsTold (n + 1) 62 [vR 21 190 0, vI x1, vI x2, vI x3] [] A1
      else
      cI (S 296 [vR 21 190 0, vI x3] A1) fun r4 A3 =>
      cI (S 296 [vR 21 190 0, vI x2] A3) fun r6 A5 =>
      if r4 = r6 then some (some (vI 0), A5) else
      go true 2 S SN pb_X12_areSeatsTold (n + 1) 62 [vR 21 190 0, vI x1, vI x2, vI x3] [] A5
    else
    go true 2 S SN pb_X12_areSeatsTold (n + 0) 12 [vR 21 190 0, vI x1, vI (w32 (x2 + 1)), vI x3] [] A := rfl

set_option maxRecDepth 100000 in
theorem q_X12_areSeatsTold_62 (S SN : SX) (n : Nat) (x1 : Int) (x2 : Int) (x3 : Int) (A : AH)  : go true 2 S SN pb_X12_areSeatsTold (n + 1) 62 [vR 21 190 0, vI x1, vI x2, vI x3] [] A =
    go true 2 S SN pb_X12_areSeatsTold (n + 0) 33 [vR 21 190 0, vI x1, vI x2, vI (w32 (x3 + 1))] [] A := rfl

set_option maxRecDepth 100000 in
theorem q_X12_areSeatsTold_76 (S SN : SX) (n : Nat) (x1 : Int) (x2 : Int) (u3 : AV) (A : AH)  : go true 2 S SN pb_X12_areSeatsTold (n + 4) 76 [vR 21 190 0, vI x1, vI x2, u3] [] A =
    cI (S 196 [vR 21 190 0] A) fun r2 A1 =>
    if x2 < r2 then
      cI (S 195 [vR 21 190 0] A1) fun r4 A3 =>
      if (0 : Int) ≤ w32 ((w32 (7 + r4)) + (w32 (2 * x2))) ∧ w32 ((w32 (7 + r4)) + (w32 (2 * x2))) < 1600 then
        cI (S 195 [vR 21 190 0] A3) fun r6 A5 =>
        cI (S 296 [vR 21 190 0, vI (w32 (r6 + x2))] A5) fun r8 A7 =>
        if r8 = (-1) then
          if 0 < (gi A3 191 ((w32 ((w32 (7 + r4)) + (w32 (2 * x2)))).toNat)) then some (some (vI 0), A7) else
          go true 2 S SN pb_X12_areSeatsTold (n + 1) 76 [vR 21 190 0, vI x1, vI (w32 (x2 + 1)), u3] [] A7
        else
        if 1 < (gi A3 191 ((w32 ((w32 (7 + r4)) + (w32 (2 * x2)))).toNat)) then some (some (vI 0), A7) else
        go true 2 S SN pb_X12_areSeatsTold (n + 0) 76 [vR 21 190 0, vI x1, vI (w32 (x2 + 1)), u3] [] A7
      else none
    else
    some (some (vI 1), A1) := rfl

set_option maxRecDepth 100000 in
theorem q_X12_isTold_0 (S SN : SX) (n : Nat) (x1 : Int) (A : AH)  : go true 2 S SN pb_X12_isTold (n + 2) 0 [vR 21 190 0, vI x1] [] A =
    if (gi A 190 53) = 0 then
      some (some (vI 0), A)
    else
    cI (S 195 [vR 21 190 0] A) fun r2 A1 =>
    cI (S 196 [vR 21 190 0] A1) fun r4 A3 =>
    if x1 = (w32 ((w32 (7 + r2)) + (w32 (2 * r4)))) then
      if (0 : Int) ≤ w32 (x1 - 1) ∧ w32 (x1 - 1) < 1600 then
        cI (S 291 [vR 30 191 1600, vI (w32 (x1 - 1))] A3) fun r6 A5 =>
        if (gi A3 191 ((w32 (x1 - 1)).toNat)) = r6 then
          go true 2 S SN pb_X12_isTold (n + 1) 48 [vR 21 190 0, vI x1] [] A5
        else
        some (some (vI 0), A5)
      else none
    else
    some (some (vI 0), A3) := rfl

set_option maxRecDepth 100000 in
theorem q_X12_isTold_48 (S SN : SX) (n : Nat) (x1 : Int) (A : AH)  : go true 2 S SN pb_X12_isTold (n + 2) 48 [vR 21 190 0, vI x1] [] A =
    if 999 < (w32 ((w32 (256 * (gi A 191 0))) + (gi A 191 1))) then
      go true 2 S SN pb_X12_isTold (n + 1) 112 [vR 21 190 0, vI x1] [] A
    else
    cI (S 295 [vR 21 190 0] A) fun r2 A1 =>
    cI (S 149 [vL r2, vL (-99999), vL 99999] A1) fun r4 A3 =>
    if r4 = 0 then
      go true 2 S SN pb_X12_isTold (n + 1) 112 [vR 21 190 0, vI x1] [] A3
    else
    cI (S 197 [vR 21 190 0] A3) fun r6 A5 =>
    if r6 < (gi A3 191 5) then
      go true 2 S SN pb_X12_isTold (n + 1) 112 [vR 21 190 0, vI x1] [] A5
    else
    cI (S 297 [vR 21 190 0] A5) fun r8 A7 =>
    if r8 = 0 then
      go true 2 S SN pb_X12_isTold (n + 1) 112 [vR 21 190 0, vI x1] [] A7
    else
    some (some (vI 1), A7) := rfl

set_option maxRecDepth 100000 in
theorem q_X12_isTold_112 (S SN : SX) (n : Nat) (x1 : Int) (A : AH)  : go true 2 S SN pb_X12_isTold (n + 2) 112 [vR 21 190 0, vI x1] [] A =
    some (some (vI 0), A) := rfl

set_option maxRecDepth 100000 in
theorem q_X12_on_0 (S SN : SX) (n : Nat)  (A : AH)  : go true 2 S SN pb_X12_on (n + 1) 0 [vR 21 190 0, vU, vU] [] A =
    go true 2 S SN pb_X12_on (n + 0) 10 [vR 21 190 0, vI (gi A 190 1), vU] [] (wi A 190 1 0) := rfl

set_option maxRecDepth 100000 in
theorem q_X12_on_10 (S SN : SX) (n : Nat) (x1 : Int) (u2 : AV) (A : AH)  : go true 2 S SN pb_X12_on (n + 2) 10 [vR 21 190 0, vI x1, u2] [] A =
    cI (S 298 [vR 21 190 0, vI x1] A) fun r2 A1 =>
    if r2 = 0 then
      go true 2 S SN pb_X12_on (n + 1) 28 [vR 21 190 0, vI x1, u2] [] (wi A1 192 5 (w32 ((gi A1 192 5) + 1)))
    else
    go true 2 S SN pb_X12_on (n + 0) 53 [vR 21 190 0, vI x1, u2] [] (wi A1 237 0 (w32 ((w32 (256 * (gi A1 191 0))) + (gi A1 191 1)))) := rfl

set_option maxRecDepth 100000 in
theorem q_X12_on_28 (S SN : SX) (n : Nat) (x1 : Int) (u2 : AV) (A : AH)  : go true 2 S SN pb_X12_on (n + 1) 28 [vR 21 190 0, vI x1, u2] [] A =
    some (some (vI 0), A) := rfl

set_option maxRecDepth 100000 in
theorem q_X12_on_53 (S SN : SX) (n : Nat) (x1 : Int) (u2 : AV) (A : AH)  : go true 2 S SN pb_X12_on (n + 1) 53 [vR 21 190 0, vI x1, u2] [] A =
    cI (S 295 [vR 21 190 0] A) fun r2 A1 =>
    go true 2 S SN pb_X12_on (n + 0) 63 [vR 21 190 0, vI x1, u2] [] (wi A1 237 1 r2) := rfl

set_option maxRecDepth 100000 in
theorem q_X12_on_63 (S SN : SX) (n : Nat) (x1 : Int) (u2 : AV) (A : AH)  : go true 2 S SN pb_X12_on (n + 1) 63 [vR 21 190 0, vI x1, u2] [] A =
    go true 2 S SN pb_X12_on (n + 0) 77 [vR 21 190 0, vI x1, u2] [] (wi A 237 2 (w32 ((gi A 191 5) - 1))) := rfl

set_option maxRecDepth 100000 in
theorem q_X12_on_77 (S SN : SX) (n : Nat) (x1 : Int) (u2 : AV) (A : AH)  : go true 2 S SN pb_X12_on (n + 1) 77 [vR 21 190 0, vI x1, u2] [] A =
    go true 2 S SN pb_X12_on (n + 0) 79 [vR 21 190 0, vI x1, vI 0] [] A := rfl

set_option maxRecDepth 100000 in
theorem q_X12_on_79 (S SN : SX) (n : Nat) (x1 : Int) (x2 : Int) (A : AH)  : go true 2 S SN pb_X12_on (n + 2) 79 [vR 21 190 0, vI x1, vI x2] [] A =
    cI (S 195 [vR 21 190 0] A) fun r2 A1 =>
    if x2 < r2 then
      if (0 : Int) ≤ w32 (6 + x2) ∧ w32 (6 + x2) < 1600 then
        if (0 : Int) ≤ w32 (3 + x2) ∧ w32 (3 + x2) < 146 then
          go true 2 S SN pb_X12_on (n + 1) 104 [vR 21 190 0, vI x1, vI x2] [] (wi A1 237 ((w32 (3 + x2)).toNat) (gi A1 191 ((w32 (6 + x2)).toNat)))
        else none
      else none
    else
    go true 2 S SN pb_X12_on (n + 0) 112 [vR 21 190 0, vI x1, vI 0] [] A1 := rfl

set_option maxRecDepth 100000 in
theorem q_X12_on_104 (S SN : SX) (n : Nat) (x1 : Int) (x2 : Int) (A : AH)  : go true 2 S SN pb_X12_on (n + 1) 104 [vR 21 190 0, vI x1, vI x2] [] A =
    go true 2 S SN pb_X12_on (n + 0) 79 [vR 21 190 0, vI x1, vI (w32 (x2 + 1))] [] A := rfl

set_option maxRecDepth 100000 in
theorem q_X12_on_112 (S SN : SX) (n : Nat) (x1 : Int) (x2 : Int) (A : AH)  : go true 2 S SN pb_X12_on (n + 2) 112 [vR 21 190 0, vI x1, vI x2] [] A =
    cI (S 196 [vR 21 190 0] A) fun r2 A1 =>
    if x2 < r2 then
      cI (S 195 [vR 21 190 0] A1) fun r4 A3 =>
      cI (S 296 [vR 21 190 0, vI (w32 (r4 + x2))] A3) fun r6 A5 =>
      if (0 : Int) ≤ w32 (13 + x2) ∧ w32 (13 + x2) < 146 then
        go true 2 S SN pb_X12_on (n + 1) 139 [vR 21 190 0, vI x1, vI x2] [] (wi A5 237 ((w32 (13 + x2)).toNat) r6)
      else none
    else
    go true 2 S SN pb_X12_on (n + 0) 183 [vR 21 190 0, vI x1, vI x2] [] (wi (wi A1 237 25 0) 190 73 0) := rfl

set_option maxRecDepth 100000 in
theorem q_X12_on_139 (S SN : SX) (n : Nat) (x1 : Int) (x2 : Int) (A : AH)  : go true 2 S SN pb_X12_on (n + 1) 139 [vR 21 190 0, vI x1, vI x2] [] A =
    cI (S 195 [vR 21 190 0] A) fun r2 A1 =>
    if (0 : Int) ≤ w32 ((w32 (7 + r2)) + (w32 (2 * x2))) ∧ w32 ((w32 (7 + r2)) + (w32 (2 * x2))) < 1600 then
      if (0 : Int) ≤ w32 (19 + x2) ∧ w32 (19 + x2) < 146 then
        go true 2 S SN pb_X12_on (n + 0) 164 [vR 21 190 0, vI x1, vI x2] [] (wi A1 237 ((w32 (19 + x2)).toNat) (gi A1 191 ((w32 ((w32 (7 + r2)) + (w32 (2 * x2)))).toNat)))
      else none
    else none := rfl

set_option maxRecDepth 100000 in
theorem q_X12_on_164 (S SN : SX) (n : Nat) (x1 : Int) (x2 : Int) (A : AH)  : go true 2 S SN pb_X12_on (n + 1) 164 [vR 21 190 0, vI x1, vI x2] [] A =
    go true 2 S SN pb_X12_on (n + 0) 112 [vR 21 190 0, vI x1, vI (w32 (x2 + 1))] [] A := rfl

set_option maxRecDepth 100000 in
theorem q_X12_on_183 (S SN : SX) (n : Nat) (x1 : Int) (x2 : Int) (A : AH)  : go true 2 S SN pb_X12_on (n + 1) 183 [vR 21 190 0, vI x1, vI x2] [] A =
    some (some (vI 1), A) := rfl

set_option maxRecDepth 100000 in
theorem q_X12_status_0 (S SN : SX) (n : Nat) (x1 : Int) (A : AH)  : go true 0 S SN pb_X12_status (n + 3) 0 [vR 21 190 0, vI x1] [] A =
    cI (S 149 [vL x1, vL 0, vL 5] A) fun r2 A1 =>
    if r2 = 0 then
      some (some (vI (-1)), A1)
    else
    if (0 : Int) ≤ x1 ∧ x1 < 6 then
      some (some (vI (gi A1 192 x1.toNat)), A1)
    else none := rfl
