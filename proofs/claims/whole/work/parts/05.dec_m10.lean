set_option maxRecDepth 100000 in
theorem q_X12_asked_0 (S SN : SX) (n : Nat) (x1 : Int) (x2 : Int) (A : AH)  : go true 0 S SN pb_X12_asked (n + 2) 0 [vR 21 190 0, vI x1, vI x2, vU, vU, vU, vU, vU] [] A =
    cI (S 195 [vR 21 190 0] A) fun r2 A1 =>
    cI (S 149 [vL x2, vL 0, vL (w32 ((bshl 1 r2) - 1))] A1) fun r4 A3 =>
    if r4 = 0 then some (some (vI (-1)), A3) else
    go true 0 S SN pb_X12_asked (n + 0) 33 [vR 21 190 0, vI x1, vI x2, vI (gi A3 237 2), vI 0, vI 0, vU, vU] [] A3 := rfl

set_option maxRecDepth 100000 in
theorem q_X12_asked_33 (S SN : SX) (n : Nat) (x1 : Int) (x2 : Int) (x3 : Int) (x4 : Int) (x5 : Int) (u6 : AV) (u7 : AV) (A : AH)  : go true 0 S SN pb_X12_asked (n + 2) 33 [vR 21 190 0, vI x1, vI x2, vI x3, vI x4, vI x5, u6, u7] [] A =
    cI (S 197 [vR 21 190 0] A) fun r2 A1 =>
    if x5 < r2 then
      go true 0 S SN pb_X12_asked (n + 1) 50 [vR 21 190 0, vI x1, vI x2, vI x3, vI x4, vI x5, u6, u7] [] (wi A1 237 2 x5)
    else
    some (some (vI x4), wi A1 237 2 x3) := rfl

set_option maxRecDepth 100000 in
theorem q_X12_asked_50 (S SN : SX) (n : Nat) (x1 : Int) (x2 : Int) (x3 : Int) (x4 : Int) (x5 : Int) (u6 : AV) (u7 : AV) (A : AH)  : go true 0 S SN pb_X12_asked (n + 1) 50 [vR 21 190 0, vI x1, vI x2, vI x3, vI x4, vI x5, u6, u7] [] A =
    go true 0 S SN pb_X12_asked (n + 0) 56 [vR 21 190 0, vI x1, vI x2, vI x3, vI x4, vI x5, vI 0, vI 0] [] A := rfl

set_option maxRecDepth 100000 in
theorem q_X12_asked_56 (S SN : SX) (n : Nat) (x1 : Int) (x2 : Int) (x3 : Int) (x4 : Int) (x5 : Int) (x6 : Int) (x7 : Int) (A : AH)  : go true 0 S SN pb_X12_asked (n + 2) 56 [vR 21 190 0, vI x1, vI x2, vI x3, vI x4, vI x5, vI x6, vI x7] [] A =
    if x7 < 16 then
      cI (S 200 [vR 21 190 0, vI x7] A) fun r2 A1 =>
      if r2 = 0 then
        go true 0 S SN pb_X12_asked (n + 1) 107 [vR 21 190 0, vI x1, vI x2, vI x3, vI x4, vI x5, vI x6, vI x7] [] A1
      else
      cI (S 202 [vR 21 190 0, vI x7] A1) fun r4 A3 =>
      if r4 = 0 then
        if (band (bshr x2 x7) 1) = 1 then
          go true 0 S SN pb_X12_asked (n + 1) 101 [vR 21 190 0, vI x1, vI x2, vI x3, vI x4, vI x5, vI x6, vI x7] [vI 1, vI x7, vR 21 190 0, vI x6] A3
        else
        go true 0 S SN pb_X12_asked (n + 1) 100 [vR 21 190 0, vI x1, vI x2, vI x3, vI x4, vI x5, vI x6, vI x7] [vI x7, vR 21 190 0, vI x6] A3
      else
      go true 0 S SN pb_X12_asked (n + 1) 100 [vR 21 190 0, vI x1, vI x2, vI x3, vI x4, vI x5, vI x6, vI x7] [vI x7, vR 21 190 0, vI x6] A3
    else
    if x6 = x1 then
      go true 0 S SN pb_X12_asked (n + 0) 128 [vR 21 190 0, vI x1, vI x2, vI x3, vI (bor x4 (bshl 1 x5)), vI x5, vI x6, vI x7] [] A
    else
    go true 0 S SN pb_X12_asked (n + 0) 128 [vR 21 190 0, vI x1, vI x2, vI x3, vI x4, vI x5, vI x6, vI x7] [] A := rfl

set_option maxRecDepth 100000 in
theorem q_X12_asked_100 (S SN : SX) (n : Nat) (x1 : Int) (x2 : Int) (x3 : Int) (x4 : Int) (x5 : Int) (x6 : Int) (x7 : Int) (sx0 : Int) (sx2 : Int) (A : AH)  : go true 0 S SN pb_X12_asked (n + 1) 100 [vR 21 190 0, vI x1, vI x2, vI x3, vI x4, vI x5, vI x6, vI x7] [vI sx0, vR 21 190 0, vI sx2] A =
    go true 0 S SN pb_X12_asked (n + 0) 101 [vR 21 190 0, vI x1, vI x2, vI x3, vI x4, vI x5, vI x6, vI x7] [vI 0, vI sx0, vR 21 190 0, vI sx2] A := rfl

set_option maxRecDepth 100000 in
theorem q_X12_asked_101 (S SN : SX) (n : Nat) (x1 : Int) (x2 : Int) (x3 : Int) (x4 : Int) (x5 : Int) (x6 : Int) (x7 : Int) (sx0 : Int) (sx1 : Int) (sx3 : Int) (A : AH)  : go true 0 S SN pb_X12_asked (n + 1) 101 [vR 21 190 0, vI x1, vI x2, vI x3, vI x4, vI x5, vI x6, vI x7] [vI sx0, vI sx1, vR 21 190 0, vI sx3] A =
    cI (S 215 [vR 21 190 0, vI sx1, vI sx0] A) fun r2 A1 =>
    go true 0 S SN pb_X12_asked (n + 0) 107 [vR 21 190 0, vI x1, vI x2, vI x3, vI x4, vI x5, vI (w32 (sx3 + r2)), vI x7] [] A1 := rfl

set_option maxRecDepth 100000 in
theorem q_X12_asked_107 (S SN : SX) (n : Nat) (x1 : Int) (x2 : Int) (x3 : Int) (x4 : Int) (x5 : Int) (x6 : Int) (x7 : Int) (A : AH)  : go true 0 S SN pb_X12_asked (n + 1) 107 [vR 21 190 0, vI x1, vI x2, vI x3, vI x4, vI x5, vI x6, vI x7] [] A =
    go true 0 S SN pb_X12_asked (n + 0) 56 [vR 21 190 0, vI x1, vI x2, vI x3, vI x4, vI x5, vI x6, vI (w32 (x7 + 1))] [] A := rfl

set_option maxRecDepth 100000 in
theorem q_X12_asked_128 (S SN : SX) (n : Nat) (x1 : Int) (x2 : Int) (x3 : Int) (x4 : Int) (x5 : Int) (x6 : Int) (x7 : Int) (A : AH)  : go true 0 S SN pb_X12_asked (n + 1) 128 [vR 21 190 0, vI x1, vI x2, vI x3, vI x4, vI x5, vI x6, vI x7] [] A =
    go true 0 S SN pb_X12_asked (n + 0) 33 [vR 21 190 0, vI x1, vI x2, vI x3, vI x4, vI (w32 (x5 + 1)), vI x6, vI x7] [] A := rfl

set_option maxRecDepth 100000 in
theorem q_X12_loudest_0 (S SN : SX) (n : Nat) (x1 : Int) (A : AH)  : go true 0 S SN pb_X12_loudest (n + 2) 0 [vR 21 190 0, vI x1, vU, vU, vU, vU, vU, vU, vU, vU] [] A =
    cI (S 229 [vR 21 190 0, vI x1, vI 1, vI 200] A) fun r2 A1 =>
    if r2 = 0 then some (some (vI (-1)), A1) else
    cL (S 228 [vR 21 190 0, vI x1] A1) fun r4 A3 =>
    go true 0 S SN pb_X12_loudest (n + 0) 31 [vR 21 190 0, vI x1, vL r4, vS, vI (-1), vL (-1), vS, vI 0, vU, vU] [] A3 := rfl

set_option maxRecDepth 100000 in
theorem q_X12_loudest_31 (S SN : SX) (n : Nat) (x1 : Int) (y2 : Int) (x4 : Int) (y5 : Int) (x7 : Int) (u8 : AV) (u9 : AV) (A : AH)  : go true 0 S SN pb_X12_loudest (n + 2) 31 [vR 21 190 0, vI x1, vL y2, vS, vI x4, vL y5, vS, vI x7, u8, u9] [] A =
    if x7 < (gi A 224 9) then
      go true 0 S SN pb_X12_loudest (n + 1) 49 [vR 21 190 0, vI x1, vL y2, vS, vI x4, vL y5, vS, vI x7, u8, u9] [] (wi A 190 65 x7)
    else
    some (some (vI x4), wi A 190 65 (-1)) := rfl

set_option maxRecDepth 100000 in
theorem q_X12_loudest_49 (S SN : SX) (n : Nat) (x1 : Int) (y2 : Int) (x4 : Int) (y5 : Int) (x7 : Int) (u8 : AV) (u9 : AV) (A : AH)  : go true 0 S SN pb_X12_loudest (n + 1) 49 [vR 21 190 0, vI x1, vL y2, vS, vI x4, vL y5, vS, vI x7, u8, u9] [] A =
    cL (S 228 [vR 21 190 0, vI x1] A) fun r2 A1 =>
    if (lcp (w64 (r2 - y2)) 0) < 0 then
      go true 0 S SN pb_X12_loudest (n + 0) 70 [vR 21 190 0, vI x1, vL y2, vS, vI x4, vL y5, vS, vI x7, vL (w64 (-(w64 (r2 - y2)))), vS] [] A1
    else
    go true 0 S SN pb_X12_loudest (n + 0) 70 [vR 21 190 0, vI x1, vL y2, vS, vI x4, vL y5, vS, vI x7, vL (w64 (r2 - y2)), vS] [] A1 := rfl

set_option maxRecDepth 100000 in
theorem q_X12_loudest_70 (S SN : SX) (n : Nat) (x1 : Int) (y2 : Int) (x4 : Int) (y5 : Int) (x7 : Int) (y8 : Int) (A : AH)  : go true 0 S SN pb_X12_loudest (n + 2) 70 [vR 21 190 0, vI x1, vL y2, vS, vI x4, vL y5, vS, vI x7, vL y8, vS] [] A =
    if 0 < (lcp y8 y5) then
      go true 0 S SN pb_X12_loudest (n + 0) 89 [vR 21 190 0, vI x1, vL y2, vS, vI x7, vL y8, vS, vI x7, vL y8, vS] [] A
    else
    go true 0 S SN pb_X12_loudest (n + 1) 89 [vR 21 190 0, vI x1, vL y2, vS, vI x4, vL y5, vS, vI x7, vL y8, vS] [] A := rfl

set_option maxRecDepth 100000 in
theorem q_X12_loudest_89 (S SN : SX) (n : Nat) (x1 : Int) (y2 : Int) (x4 : Int) (y5 : Int) (x7 : Int) (y8 : Int) (A : AH)  : go true 0 S SN pb_X12_loudest (n + 1) 89 [vR 21 190 0, vI x1, vL y2, vS, vI x4, vL y5, vS, vI x7, vL y8, vS] [] A =
    go true 0 S SN pb_X12_loudest (n + 0) 31 [vR 21 190 0, vI x1, vL y2, vS, vI x4, vL y5, vS, vI (w32 (x7 + 1)), vL y8, vS] [] A := rfl

set_option maxRecDepth 100000 in
theorem q_X12_keeps_0 (S SN : SX) (n : Nat)  (A : AH)  : go true 3 S SN pb_X12_keeps (n + 1) 0 [vR 21 190 0, vU] [] A =
    go true 3 S SN pb_X12_keeps (n + 0) 13 [vR 21 190 0, vU] [] (wi A 190 74 ((w32 ((gi A 190 74) + 1)).tmod 20)) := rfl

set_option maxRecDepth 100000 in
theorem q_X12_keeps_13 (S SN : SX) (n : Nat) (u1 : AV) (A : AH)  : go true 3 S SN pb_X12_keeps (n + 1) 13 [vR 21 190 0, u1] [] A =
    go true 3 S SN pb_X12_keeps (n + 0) 15 [vR 21 190 0, vI 0] [] A := rfl

set_option maxRecDepth 100000 in
theorem q_X12_keeps_15 (S SN : SX) (n : Nat) (x1 : Int) (A : AH)  : go true 3 S SN pb_X12_keeps (n + 3) 15 [vR 21 190 0, vI x1] [] A =
    if x1 < 146 then
      if (0 : Int) ≤ x1 ∧ x1 < 146 then
        if (0 : Int) ≤ w32 ((w32 (146 * (gi A 190 74))) + x1) ∧ w32 ((w32 (146 * (gi A 190 74))) + x1) < 2920 then
          go true 3 S SN pb_X12_keeps (n + 2) 43 [vR 21 190 0, vI x1] [] (wi A 243 ((w32 ((w32 (146 * (gi A 190 74))) + x1)).toNat) (gi A 237 x1.toNat))
        else none
      else none
    else
    if (gi A 190 73) < 20 then
      some (none, wi A 190 73 (w32 ((gi A 190 73) + 1)))
    else
    some (none, A) := rfl

set_option maxRecDepth 100000 in
theorem q_X12_keeps_43 (S SN : SX) (n : Nat) (x1 : Int) (A : AH)  : go true 3 S SN pb_X12_keeps (n + 1) 43 [vR 21 190 0, vI x1] [] A =
    go true 3 S SN pb_X12_keeps (n + 0) 15 [vR 21 190 0, vI (w32 (x1 + 1))] [] A := rfl

set_option maxRecDepth 100000 in
theorem q_X12_undo_0 (S SN : SX) (n : Nat)  (A : AH)  : go true 2 S SN pb_X12_undo (n + 2) 0 [vR 21 190 0, vU] [] A =
    if (gi A 190 73) = 0 then
      go true 2 S SN pb_X12_undo (n + 1) 17 [vR 21 190 0, vU] [] (wi A 192 4 (w32 ((gi A 192 4) + 1)))
    else
    go true 2 S SN pb_X12_undo (n + 0) 21 [vR 21 190 0, vI 0] [] A := rfl

set_option maxRecDepth 100000 in
theorem q_X12_undo_17 (S SN : SX) (n : Nat) (u1 : AV) (A : AH)  : go true 2 S SN pb_X12_undo (n + 1) 17 [vR 21 190 0, u1] [] A =
    some (some (vI 0), A) := rfl

set_option maxRecDepth 100000 in
theorem q_X12_undo_21 (S SN : SX) (n : Nat) (x1 : Int) (A : AH)  : go true 2 S SN pb_X12_undo (n + 2) 21 [vR 21 190 0, vI x1] [] A =
    if x1 < 146 then
      if (0 : Int) ≤ w32 ((w32 (146 * (gi A 190 74))) + x1) ∧ w32 ((w32 (146 * (gi A 190 74))) + x1) < 2920 then
        if (0 : Int) ≤ x1 ∧ x1 < 146 then
          go true 2 S SN pb_X12_undo (n + 1) 49 [vR 21 190 0, vI x1] [] (wi A 237 x1.toNat (gi A 243 ((w32 ((w32 (146 * (gi A 190 74))) + x1)).toNat)))
        else none
      else none
    else
    go true 2 S SN pb_X12_undo (n + 0) 71 [vR 21 190 0, vI x1] [] (wi A 190 74 ((w32 ((w32 ((gi A 190 74) + 20)) - 1)).tmod 20)) := rfl

set_option maxRecDepth 100000 in
theorem q_X12_undo_49 (S SN : SX) (n : Nat) (x1 : Int) (A : AH)  : go true 2 S SN pb_X12_undo (n + 1) 49 [vR 21 190 0, vI x1] [] A =
    go true 2 S SN pb_X12_undo (n + 0) 21 [vR 21 190 0, vI (w32 (x1 + 1))] [] A := rfl

set_option maxRecDepth 100000 in
theorem q_X12_undo_71 (S SN : SX) (n : Nat) (x1 : Int) (A : AH)  : go true 2 S SN pb_X12_undo (n + 1) 71 [vR 21 190 0, vI x1] [] A =
    go true 2 S SN pb_X12_undo (n + 0) 81 [vR 21 190 0, vI x1] [] (wi A 190 73 (w32 ((gi A 190 73) - 1))) := rfl

set_option maxRecDepth 100000 in
theorem q_X12_undo_81 (S SN : SX) (n : Nat) (x1 : Int) (A : AH)  : go true 2 S SN pb_X12_undo (n + 1) 81 [vR 21 190 0, vI x1] [] A =
    some (some (vI 1), A) := rfl

set_option maxRecDepth 100000 in
theorem q_X12_seed_0 (S SN : SX) (n : Nat) (x1 : Int) (A : AH)  : go true 2 S SN pb_X12_seed (n + 2) 0 [vR 21 190 0, vI x1] [] A =
    if x1 < 0 then
      go true 2 S SN pb_X12_seed (n + 1) 14 [vR 21 190 0, vI x1] [] (wi A 192 5 (w32 ((gi A 192 5) + 1)))
    else
    some (some (vI 1), wi A 190 75 x1) := rfl

set_option maxRecDepth 100000 in
theorem q_X12_seed_14 (S SN : SX) (n : Nat) (x1 : Int) (A : AH)  : go true 2 S SN pb_X12_seed (n + 1) 14 [vR 21 190 0, vI x1] [] A =
    some (some (vI 0), A) := rfl

set_option maxRecDepth 100000 in
theorem q_X12_drawOf_0 (S SN : SX) (n : Nat) (x1 : Int) (A : AH)  : go true 0 S SN pb_X12_drawOf (n + 1) 0 [vR 21 190 0, vI x1] [] A =
    go true 0 S SN pb_X12_drawOf (n + 0) 20 [vR 21 190 0, vI x1] [] (wi A 190 75 ((w64 ((w64 (1103515245 * (gi A 190 75))) + 12345)).tmod 2147483648)) := rfl

set_option maxRecDepth 100000 in
theorem q_X12_drawOf_20 (S SN : SX) (n : Nat) (x1 : Int) (A : AH)  : go true 0 S SN pb_X12_drawOf (n + 1) 20 [vR 21 190 0, vI x1] [] A =
    if x1 = 0 then none else
    some (some (vI (w32 ((w64 ((gi A 190 75).tdiv 64)).tmod x1))), A) := rfl

set_option maxRecDepth 100000 in
theorem q_X12_isKept_0 (S SN : SX) (n : Nat) (x1 : Int) (x2 : Int) (A : AH)  : go true 3 S SN pb_X12_isKept (n + 2) 0 [vR 21 190 0, vI x1, vI x2, vU] [] A =
    if (gi A 237 25) = 40 then
      go true 3 S SN pb_X12_isKept (n + 1) 15 [vR 21 190 0, vI x1, vI x2, vI 26] [] A
    else
    go true 3 S SN pb_X12_isKept (n + 0) 56 [vR 21 190 0, vI x1, vI x2, vU] [] (wi A 237 25 (w32 ((gi A 237 25) + 1))) := rfl

set_option maxRecDepth 100000 in
theorem q_X12_isKept_15 (S SN : SX) (n : Nat) (x1 : Int) (x2 : Int) (x3 : Int) (A : AH)  : go true 3 S SN pb_X12_isKept (n + 2) 15 [vR 21 190 0, vI x1, vI x2, vI x3] [] A =
    if x3 < 143 then
      if (0 : Int) ≤ w32 (x3 + 3) ∧ w32 (x3 + 3) < 146 then
        if (0 : Int) ≤ x3 ∧ x3 < 146 then
          go true 3 S SN pb_X12_isKept (n + 1) 36 [vR 21 190 0, vI x1, vI x2, vI x3] [] (wi A 237 x3.toNat (gi A 237 ((w32 (x3 + 3)).toNat)))
        else none
      else none
    else
    go true 3 S SN pb_X12_isKept (n + 0) 56 [vR 21 190 0, vI x1, vI x2, vI x3] [] A := rfl

set_option maxRecDepth 100000 in
theorem q_X12_isKept_36 (S SN : SX) (n : Nat) (x1 : Int) (x2 : Int) (x3 : Int) (A : AH)  : go true 3 S SN pb_X12_isKept (n + 1) 36 [vR 21 190 0, vI x1, vI x2, vI x3] [] A =
    go true 3 S SN pb_X12_isKept (n + 0) 15 [vR 21 190 0, vI x1, vI x2, vI (w32 (x3 + 1))] [] A := rfl

set_option maxRecDepth 100000 in
theorem q_X12_isKept_56 (S SN : SX) (n : Nat) (x1 : Int) (x2 : Int) (u3 : AV) (A : AH)  : go true 3 S SN pb_X12_isKept (n + 1) 56 [vR 21 190 0, vI x1, vI x2, u3] [] A =
    if (0 : Int) ≤ w32 ((w32 (26 + (w32 (3 * (gi A 237 25))))) - 3) ∧ w32 ((w32 (26 + (w32 (3 * (gi A 237 25))))) - 3) < 146 then
      go true 3 S SN pb_X12_isKept (n + 0) 83 [vR 21 190 0, vI x1, vI x2, vI (w32 ((w32 (26 + (w32 (3 * (gi A 237 25))))) - 3))] [] (wi A 237 ((w32 ((w32 (26 + (w32 (3 * (gi A 237 25))))) - 3)).toNat) (gi A 237 0))
    else none := rfl

set_option maxRecDepth 100000 in
theorem q_X12_isKept_83 (S SN : SX) (n : Nat) (x1 : Int) (x2 : Int) (x3 : Int) (A : AH)  : go true 3 S SN pb_X12_isKept (n + 1) 83 [vR 21 190 0, vI x1, vI x2, vI x3] [] A =
    if (0 : Int) ≤ w32 (x3 + 1) ∧ w32 (x3 + 1) < 146 then
      go true 3 S SN pb_X12_isKept (n + 0) 92 [vR 21 190 0, vI x1, vI x2, vI x3] [] (wi A 237 ((w32 (x3 + 1)).toNat) x1)
    else none := rfl

set_option maxRecDepth 100000 in
theorem q_X12_isKept_92 (S SN : SX) (n : Nat) (x1 : Int) (x2 : Int) (x3 : Int) (A : AH)  : go true 3 S SN pb_X12_isKept (n + 1) 92 [vR 21 190 0, vI x1, vI x2, vI x3] [] A =
    if (0 : Int) ≤ w32 (x3 + 2) ∧ w32 (x3 + 2) < 146 then
      go true 3 S SN pb_X12_isKept (n + 0) 101 [vR 21 190 0, vI x1, vI x2, vI x3] [] (wi A 237 ((w32 (x3 + 2)).toNat) x2)
    else none := rfl

set_option maxRecDepth 100000 in
theorem q_X12_isKept_101 (S SN : SX) (n : Nat) (x1 : Int) (x2 : Int) (x3 : Int) (A : AH)  : go true 3 S SN pb_X12_isKept (n + 1) 101 [vR 21 190 0, vI x1, vI x2, vI x3] [] A =
    some (none, A) := rfl

set_option maxRecDepth 100000 in
theorem q_X12_minuteGoes_0 (S SN : SX) (n : Nat)  (A : AH)  : go true 0 S SN pb_X12_minuteGoes (n + 1) 0 [vR 21 190 0, vU, vU, vU, vU] [] A =
    go true 0 S SN pb_X12_minuteGoes (n + 0) 11 [vR 21 190 0, vI (gi A 237 1), vI 0, vI 0, vU] [] A := rfl

set_option maxRecDepth 100000 in
theorem q_X12_minuteGoes_11 (S SN : SX) (n : Nat) (x1 : Int) (x2 : Int) (x3 : Int) (u4 : AV) (A : AH)  : go true 0 S SN pb_X12_minuteGoes (n + 1) 11 [vR 21 190 0, vI x1, vI x2, vI x3, u4] [] A =
    if x3 < 16 then
      cI (S 200 [vR 21 190 0, vI x3] A) fun r2 A1 =>
      if r2 = 0 then
        go true 0 S SN pb_X12_minuteGoes (n + 0) 88 [vR 21 190 0, vI x1, vI x2, vI x3, u4] [] A1
      else
      go true 0 S SN pb_X12_minuteGoes (n + 0) 28 [vR 21 190 0, vI x1, vI x2, vI x3, u4] [] A1
    else
    go true 0 S SN pb_X12_minuteGoes (n + 0) 94 [vR 21 190 0, vI x1, vI x2, vI x3, u4] [] A := rfl

set_option maxRecDepth 100000 in
theorem q_X12_minuteGoes_28 (S SN : SX) (n : Nat) (x1 : Int) (x2 : Int) (x3 : Int) (u4 : AV) (A : AH)  : go true 0 S SN pb_X12_minuteGoes (n + 1) 28 [vR 21 190 0, vI x1, vI x2, vI x3, u4] [] A =
    cI (S 204 [vR 21 190 0, vI x3] A) fun r2 A1 =>
    if 0 < r2 then
      cI (S 253 [vR 21 190 0, vI 100] A1) fun r4 A3 =>
      cI (S 204 [vR 21 190 0, vI x3] A3) fun r6 A5 =>
      if r4 < r6 then
        go true 0 S SN pb_X12_minuteGoes (n + 0) 55 [vR 21 190 0, vI x1, vI x2, vI x3, u4] [vI 1] A5
      else
      go true 0 S SN pb_X12_minuteGoes (n + 0) 54 [vR 21 190 0, vI x1, vI x2, vI x3, u4] [] A5
    else
    go true 0 S SN pb_X12_minuteGoes (n + 0) 54 [vR 21 190 0, vI x1, vI x2, vI x3, u4] [] A1 := rfl

set_option maxRecDepth 100000 in
theorem q_X12_minuteGoes_54 (S SN : SX) (n : Nat) (x1 : Int) (x2 : Int) (x3 : Int) (u4 : AV) (A : AH)  : go true 0 S SN pb_X12_minuteGoes (n + 1) 54 [vR 21 190 0, vI x1, vI x2, vI x3, u4] [] A =
    go true 0 S SN pb_X12_minuteGoes (n + 0) 55 [vR 21 190 0, vI x1, vI x2, vI x3, u4] [vI 0] A := rfl

set_option maxRecDepth 100000 in
theorem q_X12_minuteGoes_55 (S SN : SX) (n : Nat) (x1 : Int) (x2 : Int) (x3 : Int) (u4 : AV) (sx0 : Int) (A : AH)  : go true 0 S SN pb_X12_minuteGoes (n + 2) 55 [vR 21 190 0, vI x1, vI x2, vI x3, u4] [vI sx0] A =
    cI (S 215 [vR 21 190 0, vI x3, vI sx0] A) fun r2 A1 =>
    if sx0 = 0 then
      go true 0 S SN pb_X12_minuteGoes (n + 1) 88 [vR 21 190 0, vI (w32 (x1 + r2)), vI x2, vI x3, vI sx0] [] A1
    else
    cI (S 213 [vR 21 190 0, vI x3] A1) fun r4 A3 =>
    cV (S 254 [vR 21 190 0, vI x3, vI r4] A3) fun A5 =>
    go true 0 S SN pb_X12_minuteGoes (n + 0) 88 [vR 21 190 0, vI (w32 (x1 + r2)), vI (w32 (x2 + 1)), vI x3, vI sx0] [] A5 := rfl

set_option maxRecDepth 100000 in
theorem q_X12_minuteGoes_88 (S SN : SX) (n : Nat) (x1 : Int) (x2 : Int) (x3 : Int) (u4 : AV) (A : AH)  : go true 0 S SN pb_X12_minuteGoes (n + 1) 88 [vR 21 190 0, vI x1, vI x2, vI x3, u4] [] A =
    go true 0 S SN pb_X12_minuteGoes (n + 0) 11 [vR 21 190 0, vI x1, vI x2, vI (w32 (x3 + 1)), u4] [] A := rfl

set_option maxRecDepth 100000 in
theorem q_X12_minuteGoes_94 (S SN : SX) (n : Nat) (x1 : Int) (x2 : Int) (x3 : Int) (u4 : AV) (A : AH)  : go true 0 S SN pb_X12_minuteGoes (n + 1) 94 [vR 21 190 0, vI x1, vI x2, vI x3, u4] [] A =
    if 99999 < x1 then
      go true 0 S SN pb_X12_minuteGoes (n + 0) 126 [vR 21 190 0, vI x1, vI x2, vI x3, u4] [vI 99999, vI 1, vR 30 237 146] A
    else
    go true 0 S SN pb_X12_minuteGoes (n + 0) 112 [vR 21 190 0, vI x1, vI x2, vI x3, u4] [vI 1, vR 30 237 146] A := rfl

set_option maxRecDepth 100000 in
theorem q_X12_minuteGoes_112 (S SN : SX) (n : Nat) (x1 : Int) (x2 : Int) (x3 : Int) (u4 : AV) (sx0 : Int) (A : AH)  : go true 0 S SN pb_X12_minuteGoes (n + 2) 112 [vR 21 190 0, vI x1, vI x2, vI x3, u4] [vI sx0, vR 30 237 146] A =
    if x1 < (-99999) then
      go true 0 S SN pb_X12_minuteGoes (n + 1) 126 [vR 21 190 0, vI x1, vI x2, vI x3, u4] [vI (-99999), vI sx0, vR 30 237 146] A
    else
    go true 0 S SN pb_X12_minuteGoes (n + 0) 126 [vR 21 190 0, vI x1, vI x2, vI x3, u4] [vI x1, vI sx0, vR 30 237 146] A := rfl

set_option maxRecDepth 100000 in
theorem q_X12_minuteGoes_126 (S SN : SX) (n : Nat) (x1 : Int) (x2 : Int) (x3 : Int) (u4 : AV) (sx0 : Int) (sx1 : Int) (A : AH)  : go true 0 S SN pb_X12_minuteGoes (n + 1) 126 [vR 21 190 0, vI x1, vI x2, vI x3, u4] [vI sx0, vI sx1, vR 30 237 146] A =
    if (0 : Int) ≤ sx1 ∧ sx1 < 146 then
      go true 0 S SN pb_X12_minuteGoes (n + 0) 137 [vR 21 190 0, vI x1, vI x2, vI x3, u4] [] (wi (wi A 237 sx1.toNat sx0) 237 0 (w32 ((gi (wi A 237 sx1.toNat sx0) 237 0) + 1)))
    else none := rfl

set_option maxRecDepth 100000 in
theorem q_X12_minuteGoes_137 (S SN : SX) (n : Nat) (x1 : Int) (x2 : Int) (x3 : Int) (u4 : AV) (A : AH)  : go true 0 S SN pb_X12_minuteGoes (n + 1) 137 [vR 21 190 0, vI x1, vI x2, vI x3, u4] [] A =
    some (some (vI x2), A) := rfl

set_option maxRecDepth 100000 in
theorem q_X12_minutes_0 (S SN : SX) (n : Nat) (x1 : Int) (A : AH)  : go true 0 S SN pb_X12_minutes (n + 2) 0 [vR 21 190 0, vI x1, vU, vU] [] A =
    if (gi A 190 53) = 0 then
      go true 0 S SN pb_X12_minutes (n + 1) 18 [vR 21 190 0, vI x1, vU, vU] [] A
    else
    cI (S 229 [vR 21 190 0, vI x1, vI 1, vI 100] A) fun r2 A1 =>
    if r2 = 0 then
      go true 0 S SN pb_X12_minutes (n + 1) 18 [vR 21 190 0, vI x1, vU, vU] [] A1
    else
    cV (S 250 [vR 21 190 0] A1) fun A3 =>
    go true 0 S SN pb_X12_minutes (n + 0) 38 [vR 21 190 0, vI x1, vI 0, vI 0] [] A3 := rfl

set_option maxRecDepth 100000 in
theorem q_X12_minutes_18 (S SN : SX) (n : Nat) (x1 : Int) (u2 : AV) (u3 : AV) (A : AH)  : go true 0 S SN pb_X12_minutes (n + 1) 18 [vR 21 190 0, vI x1, u2, u3] [] A =
    go true 0 S SN pb_X12_minutes (n + 0) 28 [vR 21 190 0, vI x1, u2, u3] [] (wi A 192 2 (w32 ((gi A 192 2) + 1))) := rfl

set_option maxRecDepth 100000 in
theorem q_X12_minutes_28 (S SN : SX) (n : Nat) (x1 : Int) (u2 : AV) (u3 : AV) (A : AH)  : go true 0 S SN pb_X12_minutes (n + 1) 28 [vR 21 190 0, vI x1, u2, u3] [] A =
    some (some (vI (-1)), A) := rfl

set_option maxRecDepth 100000 in
theorem q_X12_minutes_38 (S SN : SX) (n : Nat) (x1 : Int) (x2 : Int) (x3 : Int) (A : AH)  : go true 0 S SN pb_X12_minutes (n + 2) 38 [vR 21 190 0, vI x1, vI x2, vI x3] [] A =
    if x3 < x1 then
      cI (S 255 [vR 21 190 0] A) fun r2 A1 =>
      go true 0 S SN pb_X12_minutes (n + 1) 38 [vR 21 190 0, vI x1, vI (w32 (x2 + r2)), vI (w32 (x3 + 1))] [] A1
    else
    some (some (vI x2), A) := rfl

set_option maxRecDepth 100000 in
theorem q_X12_refuses_0 (S SN : SX) (n : Nat)  (A : AH)  : go true 2 S SN pb_X12_refuses (n + 1) 0 [vR 21 190 0] [] A =
    go true 2 S SN pb_X12_refuses (n + 0) 10 [vR 21 190 0] [] (wi A 192 3 (w32 ((gi A 192 3) + 1))) := rfl

set_option maxRecDepth 100000 in
theorem q_X12_refuses_10 (S SN : SX) (n : Nat)  (A : AH)  : go true 2 S SN pb_X12_refuses (n + 1) 10 [vR 21 190 0] [] A =
    some (some (vI 0), A) := rfl
