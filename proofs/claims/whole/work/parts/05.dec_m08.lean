set_option maxRecDepth 100000 in
theorem q_X12_meanOf_0 (S SN : SX) (n : Nat) (x1 : Int) (A : AH)  : go true 1 S SN pb_X12_meanOf (n + 1) 0 [vR 21 190 0, vI x1, vU, vU, vU, vU] [] A =
    go true 1 S SN pb_X12_meanOf (n + 0) 22 [vR 21 190 0, vI x1, vI (gi A 237 0), vL (w64 (100 * (gi A 237 1))), vS, vI 0] [] A := rfl

set_option maxRecDepth 100000 in
theorem q_X12_meanOf_22 (S SN : SX) (n : Nat) (x1 : Int) (x2 : Int) (y3 : Int) (x5 : Int) (A : AH)  : go true 1 S SN pb_X12_meanOf (n + 2) 22 [vR 21 190 0, vI x1, vI x2, vL y3, vS, vI x5] [] A =
    if x5 < x1 then
      cL (S 227 [vR 21 190 0] A) fun r2 A1 =>
      go true 1 S SN pb_X12_meanOf (n + 1) 45 [vR 21 190 0, vI x1, vI x2, vL (w64 (y3 + r2)), vS, vI x5] [] (wi A1 237 0 (w32 ((gi A1 237 0) + 1)))
    else
    some (some (vL y3), wi A 237 0 x2) := rfl

set_option maxRecDepth 100000 in
theorem q_X12_meanOf_45 (S SN : SX) (n : Nat) (x1 : Int) (x2 : Int) (y3 : Int) (x5 : Int) (A : AH)  : go true 1 S SN pb_X12_meanOf (n + 1) 45 [vR 21 190 0, vI x1, vI x2, vL y3, vS, vI x5] [] A =
    go true 1 S SN pb_X12_meanOf (n + 0) 22 [vR 21 190 0, vI x1, vI x2, vL y3, vS, vI (w32 (x5 + 1))] [] A := rfl

set_option maxRecDepth 100000 in
theorem q_X12_isAhead_0 (S SN : SX) (n : Nat) (x1 : Int) (x2 : Int) (x3 : Int) (A : AH)  : go true 2 S SN pb_X12_isAhead (n + 2) 0 [vR 21 190 0, vI x1, vI x2, vI x3] [] A =
    cI (S 149 [vL x1, vL x2, vL x3] A) fun r2 A1 =>
    if r2 = 0 then
      go true 2 S SN pb_X12_isAhead (n + 1) 30 [vR 21 190 0, vI x1, vI x2, vI x3] [] A1
    else
    if 999 < (w32 ((gi A1 237 0) + x1)) then
      go true 2 S SN pb_X12_isAhead (n + 1) 30 [vR 21 190 0, vI x1, vI x2, vI x3] [] A1
    else
    some (some (vI 1), A1) := rfl

set_option maxRecDepth 100000 in
theorem q_X12_isAhead_30 (S SN : SX) (n : Nat) (x1 : Int) (x2 : Int) (x3 : Int) (A : AH)  : go true 2 S SN pb_X12_isAhead (n + 2) 30 [vR 21 190 0, vI x1, vI x2, vI x3] [] A =
    some (some (vI 0), A) := rfl

set_option maxRecDepth 100000 in
theorem q_X12_mean_0 (S SN : SX) (n : Nat) (x1 : Int) (A : AH)  : go true 1 S SN pb_X12_mean (n + 3) 0 [vR 21 190 0, vI x1] [] A =
    cI (S 229 [vR 21 190 0, vI x1, vI 0, vI 200] A) fun r2 A1 =>
    if r2 = 0 then
      some (some (vL (-1000000000000000)), A1)
    else
    cL (S 228 [vR 21 190 0, vI x1] A1) fun r4 A3 =>
    some (some (vL r4), A3) := rfl

set_option maxRecDepth 100000 in
theorem q_X12_laysItchers_0 (S SN : SX) (n : Nat)  (A : AH)  : go true 3 S SN pb_X12_laysItchers (n + 1) 0 [vR 21 190 0, vU] [] A =
    go true 3 S SN pb_X12_laysItchers (n + 0) 10 [vR 21 190 0, vU] [] (wi (wi A 190 69 0) 190 70 0) := rfl

set_option maxRecDepth 100000 in
theorem q_X12_laysItchers_10 (S SN : SX) (n : Nat) (u1 : AV) (A : AH)  : go true 3 S SN pb_X12_laysItchers (n + 1) 10 [vR 21 190 0, u1] [] A =
    go true 3 S SN pb_X12_laysItchers (n + 0) 12 [vR 21 190 0, vI 0] [] A := rfl

set_option maxRecDepth 100000 in
theorem q_X12_laysItchers_12 (S SN : SX) (n : Nat) (x1 : Int) (A : AH)  : go true 3 S SN pb_X12_laysItchers (n + 3) 12 [vR 21 190 0, vI x1] [] A =
    if x1 < 16 then
      cI (S 200 [vR 21 190 0, vI x1] A) fun r2 A1 =>
      if r2 = 0 then
        go true 3 S SN pb_X12_laysItchers (n + 2) 105 [vR 21 190 0, vI x1] [] A1
      else
      cI (S 204 [vR 21 190 0, vI x1] A1) fun r4 A3 =>
      if r4 = 0 then
        cI (S 215 [vR 21 190 0, vI x1, vI 0] A3) fun r6 A5 =>
        go true 3 S SN pb_X12_laysItchers (n + 1) 52 [vR 21 190 0, vI x1] [] (wi A5 190 70 (w32 ((gi A3 190 70) + r6)))
      else
      if (0 : Int) ≤ gi A3 190 69 ∧ gi A3 190 69 < 8 then
        go true 3 S SN pb_X12_laysItchers (n + 0) 65 [vR 21 190 0, vI x1] [] (wi A3 239 ((gi A3 190 69).toNat) x1)
      else none
    else
    some (none, A) := rfl

set_option maxRecDepth 100000 in
theorem q_X12_laysItchers_52 (S SN : SX) (n : Nat) (x1 : Int) (A : AH)  : go true 3 S SN pb_X12_laysItchers (n + 1) 52 [vR 21 190 0, vI x1] [] A =
    go true 3 S SN pb_X12_laysItchers (n + 0) 105 [vR 21 190 0, vI x1] [] A := rfl

set_option maxRecDepth 100000 in
theorem q_X12_laysItchers_65 (S SN : SX) (n : Nat) (x1 : Int) (A : AH)  : go true 3 S SN pb_X12_laysItchers (n + 1) 65 [vR 21 190 0, vI x1] [] A =
    cI (S 215 [vR 21 190 0, vI x1, vI 0] A) fun r2 A1 =>
    if (0 : Int) ≤ gi A 190 69 ∧ gi A 190 69 < 8 then
      go true 3 S SN pb_X12_laysItchers (n + 0) 80 [vR 21 190 0, vI x1] [] (wi A1 240 ((gi A 190 69).toNat) r2)
    else none := rfl

set_option maxRecDepth 100000 in
theorem q_X12_laysItchers_80 (S SN : SX) (n : Nat) (x1 : Int) (A : AH)  : go true 3 S SN pb_X12_laysItchers (n + 1) 80 [vR 21 190 0, vI x1] [] A =
    cI (S 215 [vR 21 190 0, vI x1, vI 1] A) fun r2 A1 =>
    if (0 : Int) ≤ gi A 190 69 ∧ gi A 190 69 < 8 then
      go true 3 S SN pb_X12_laysItchers (n + 0) 95 [vR 21 190 0, vI x1] [] (wi A1 241 ((gi A 190 69).toNat) r2)
    else none := rfl

set_option maxRecDepth 100000 in
theorem q_X12_laysItchers_95 (S SN : SX) (n : Nat) (x1 : Int) (A : AH)  : go true 3 S SN pb_X12_laysItchers (n + 1) 95 [vR 21 190 0, vI x1] [] A =
    go true 3 S SN pb_X12_laysItchers (n + 0) 105 [vR 21 190 0, vI x1] [] (wi A 190 69 (w32 ((gi A 190 69) + 1))) := rfl

set_option maxRecDepth 100000 in
theorem q_X12_laysItchers_105 (S SN : SX) (n : Nat) (x1 : Int) (A : AH)  : go true 3 S SN pb_X12_laysItchers (n + 1) 105 [vR 21 190 0, vI x1] [] A =
    go true 3 S SN pb_X12_laysItchers (n + 0) 12 [vR 21 190 0, vI (w32 (x1 + 1))] [] A := rfl

set_option maxRecDepth 100000 in
theorem q_X12_movedBy_0 (S SN : SX) (n : Nat) (x1 : Int) (A : AH)  : go true 0 S SN pb_X12_movedBy (n + 1) 0 [vR 21 190 0, vI x1, vU, vU] [] A =
    go true 0 S SN pb_X12_movedBy (n + 0) 7 [vR 21 190 0, vI x1, vI (gi A 190 70), vI 0] [] A := rfl

set_option maxRecDepth 100000 in
theorem q_X12_movedBy_7 (S SN : SX) (n : Nat) (x1 : Int) (x2 : Int) (x3 : Int) (A : AH)  : go true 0 S SN pb_X12_movedBy (n + 2) 7 [vR 21 190 0, vI x1, vI x2, vI x3] [] A =
    if x3 < (gi A 190 69) then
      if (band (bshr x1 x3) 1) = 1 then
        if (0 : Int) ≤ x3 ∧ x3 < 8 then
          go true 0 S SN pb_X12_movedBy (n + 1) 40 [vR 21 190 0, vI x1, vI x2, vI x3] [vI (gi A 241 x3.toNat), vI x2] A
        else none
      else
      if (0 : Int) ≤ x3 ∧ x3 < 8 then
        go true 0 S SN pb_X12_movedBy (n + 0) 40 [vR 21 190 0, vI x1, vI x2, vI x3] [vI (gi A 240 x3.toNat), vI x2] A
      else none
    else
    some (some (vI x2), A) := rfl

set_option maxRecDepth 100000 in
theorem q_X12_movedBy_40 (S SN : SX) (n : Nat) (x1 : Int) (x2 : Int) (x3 : Int) (sx0 : Int) (sx1 : Int) (A : AH)  : go true 0 S SN pb_X12_movedBy (n + 1) 40 [vR 21 190 0, vI x1, vI x2, vI x3] [vI sx0, vI sx1] A =
    go true 0 S SN pb_X12_movedBy (n + 0) 7 [vR 21 190 0, vI x1, vI (w32 (sx1 + sx0)), vI (w32 (x3 + 1))] [] A := rfl

set_option maxRecDepth 100000 in
theorem q_X12_waysOf_0 (S SN : SX) (n : Nat) (x1 : Int) (A : AH)  : go true 1 S SN pb_X12_waysOf (n + 1) 0 [vR 21 190 0, vI x1, vU, vU, vU] [] A =
    go true 1 S SN pb_X12_waysOf (n + 0) 5 [vR 21 190 0, vI x1, vL 1, vS, vI 0] [] A := rfl

set_option maxRecDepth 100000 in
theorem q_X12_waysOf_5 (S SN : SX) (n : Nat) (x1 : Int) (y2 : Int) (x4 : Int) (A : AH)  : go true 1 S SN pb_X12_waysOf (n + 2) 5 [vR 21 190 0, vI x1, vL y2, vS, vI x4] [] A =
    if x4 < (gi A 190 69) then
      if (band (bshr x1 x4) 1) = 1 then
        if (0 : Int) ≤ x4 ∧ x4 < 8 then
          cI (S 204 [vR 21 190 0, vI (gi A 239 x4.toNat)] A) fun r2 A1 =>
          go true 1 S SN pb_X12_waysOf (n + 1) 55 [vR 21 190 0, vI x1, vL y2, vS, vI x4] [vL r2, vL y2] A1
        else none
      else
      if (0 : Int) ≤ x4 ∧ x4 < 8 then
        cI (S 204 [vR 21 190 0, vI (gi A 239 x4.toNat)] A) fun r4 A3 =>
        go true 1 S SN pb_X12_waysOf (n + 0) 55 [vR 21 190 0, vI x1, vL y2, vS, vI x4] [vL (w32 (100 - r4)), vL y2] A3
      else none
    else
    some (some (vL y2), A) := rfl

set_option maxRecDepth 100000 in
theorem q_X12_waysOf_55 (S SN : SX) (n : Nat) (x1 : Int) (y2 : Int) (x4 : Int) (sy0 : Int) (sy1 : Int) (A : AH)  : go true 1 S SN pb_X12_waysOf (n + 1) 55 [vR 21 190 0, vI x1, vL y2, vS, vI x4] [vL sy0, vL sy1] A =
    go true 1 S SN pb_X12_waysOf (n + 0) 5 [vR 21 190 0, vI x1, vL (w64 (sy1 * sy0)), vS, vI (w32 (x4 + 1))] [] A := rfl

set_option maxRecDepth 100000 in
theorem q_X12_odds_0 (S SN : SX) (n : Nat) (x1 : Int) (A : AH)  : go true 0 S SN pb_X12_odds (n + 2) 0 [vR 21 190 0, vI x1, vU, vU, vU, vU] [] A =
    cI (S 149 [vL x1, vL 0, vL 2] A) fun r2 A1 =>
    if r2 = 0 then some (some (vI (-1)), A1) else
    cV (S 231 [vR 21 190 0] A1) fun A3 =>
    go true 0 S SN pb_X12_odds (n + 0) 23 [vR 21 190 0, vI x1, vL 0, vS, vI 0, vU] [] A3 := rfl

set_option maxRecDepth 100000 in
theorem q_X12_odds_23 (S SN : SX) (n : Nat) (x1 : Int) (y2 : Int) (x4 : Int) (u5 : AV) (A : AH)  : go true 0 S SN pb_X12_odds (n + 3) 23 [vR 21 190 0, vI x1, vL y2, vS, vI x4, u5] [] A =
    if x4 < (bshl 1 (gi A 190 69)) then
      cI (S 232 [vR 21 190 0, vI x4] A) fun r2 A1 =>
      if 0 < r2 then
        go true 0 S SN pb_X12_odds (n + 2) 62 [vR 21 190 0, vI x1, vL y2, vS, vI x4, vI r2] [vI 0, vI x1] A1
      else
      if r2 < 0 then
        go true 0 S SN pb_X12_odds (n + 1) 62 [vR 21 190 0, vI x1, vL y2, vS, vI x4, vI r2] [vI 1, vI x1] A1
      else
      go true 0 S SN pb_X12_odds (n + 0) 62 [vR 21 190 0, vI x1, vL y2, vS, vI x4, vI r2] [vI 2, vI x1] A1
    else
    go true 0 S SN pb_X12_odds (n + 1) 86 [vR 21 190 0, vI x1, vL y2, vS, vI (gi A 190 69), u5] [] A := rfl

set_option maxRecDepth 100000 in
theorem q_X12_odds_62 (S SN : SX) (n : Nat) (x1 : Int) (y2 : Int) (x4 : Int) (x5 : Int) (sx0 : Int) (sx1 : Int) (A : AH)  : go true 0 S SN pb_X12_odds (n + 1) 62 [vR 21 190 0, vI x1, vL y2, vS, vI x4, vI x5] [vI sx0, vI sx1] A =
    if sx1 = sx0 then
      cL (S 233 [vR 21 190 0, vI x4] A) fun r2 A1 =>
      go true 0 S SN pb_X12_odds (n + 0) 74 [vR 21 190 0, vI x1, vL (w64 (y2 + r2)), vS, vI x4, vI x5] [] A1
    else
    go true 0 S SN pb_X12_odds (n + 0) 74 [vR 21 190 0, vI x1, vL y2, vS, vI x4, vI x5] [] A := rfl

set_option maxRecDepth 100000 in
theorem q_X12_odds_74 (S SN : SX) (n : Nat) (x1 : Int) (y2 : Int) (x4 : Int) (x5 : Int) (A : AH)  : go true 0 S SN pb_X12_odds (n + 1) 74 [vR 21 190 0, vI x1, vL y2, vS, vI x4, vI x5] [] A =
    go true 0 S SN pb_X12_odds (n + 0) 23 [vR 21 190 0, vI x1, vL y2, vS, vI (w32 (x4 + 1)), vI x5] [] A := rfl

set_option maxRecDepth 100000 in
theorem q_X12_odds_86 (S SN : SX) (n : Nat) (x1 : Int) (y2 : Int) (x4 : Int) (u5 : AV) (A : AH)  : go true 0 S SN pb_X12_odds (n + 2) 86 [vR 21 190 0, vI x1, vL y2, vS, vI x4, u5] [] A =
    if x4 < 3 then
      go true 0 S SN pb_X12_odds (n + 1) 86 [vR 21 190 0, vI x1, vL (w64 (y2 * 100)), vS, vI (w32 (x4 + 1)), u5] [] A
    else
    go true 0 S SN pb_X12_odds (n + 0) 107 [vR 21 190 0, vI x1, vL y2, vS, vI 3, u5] [] A := rfl

set_option maxRecDepth 100000 in
theorem q_X12_odds_107 (S SN : SX) (n : Nat) (x1 : Int) (y2 : Int) (x4 : Int) (u5 : AV) (A : AH)  : go true 0 S SN pb_X12_odds (n + 2) 107 [vR 21 190 0, vI x1, vL y2, vS, vI x4, u5] [] A =
    if x4 < (gi A 190 69) then
      go true 0 S SN pb_X12_odds (n + 1) 107 [vR 21 190 0, vI x1, vL (w64 (y2.tdiv 100)), vS, vI (w32 (x4 + 1)), u5] [] A
    else
    some (some (vI (w32 y2)), A) := rfl

set_option maxRecDepth 100000 in
theorem q_X12_freeSeat_0 (S SN : SX) (n : Nat)  (A : AH)  : go true 0 S SN pb_X12_freeSeat (n + 1) 0 [vR 21 190 0, vU] [] A =
    go true 0 S SN pb_X12_freeSeat (n + 0) 2 [vR 21 190 0, vI 0] [] A := rfl

set_option maxRecDepth 100000 in
theorem q_X12_freeSeat_2 (S SN : SX) (n : Nat) (x1 : Int) (A : AH)  : go true 0 S SN pb_X12_freeSeat (n + 2) 2 [vR 21 190 0, vI x1] [] A =
    cI (S 194 [vR 21 190 0] A) fun r2 A1 =>
    if x1 < r2 then
      cI (S 201 [vR 21 190 0, vI x1] A1) fun r4 A3 =>
      if r4 = (-1) then some (some (vI x1), A3) else
      go true 0 S SN pb_X12_freeSeat (n + 0) 2 [vR 21 190 0, vI (w32 (x1 + 1))] [] A3
    else
    some (some (vI (-1)), A1) := rfl

set_option maxRecDepth 100000 in
theorem q_X12_areSeated_0 (S SN : SX) (n : Nat) (x1 : Int) (x2 : Int) (A : AH)  : go true 2 S SN pb_X12_areSeated (n + 1) 0 [vR 21 190 0, vI x1, vI x2, vU, vU] [] A =
    go true 2 S SN pb_X12_areSeated (n + 0) 2 [vR 21 190 0, vI x1, vI x2, vI 0, vU] [] A := rfl

set_option maxRecDepth 100000 in
theorem q_X12_areSeated_2 (S SN : SX) (n : Nat) (x1 : Int) (x2 : Int) (x3 : Int) (u4 : AV) (A : AH)  : go true 2 S SN pb_X12_areSeated (n + 3) 2 [vR 21 190 0, vI x1, vI x2, vI x3, u4] [] A =
    cI (S 196 [vR 21 190 0] A) fun r2 A1 =>
    if x3 < r2 then
      if (band (bshr x1 x3) 1) = 0 then
        go true 2 S SN pb_X12_areSeated (n + 2) 56 [vR 21 190 0, vI x1, vI x2, vI x3, u4] [] A1
      else
      cI (S 235 [vR 21 190 0] A1) fun r4 A3 =>
      if r4 = (-1) then some (some (vI 0), A3) else
      if (0 : Int) ≤ w32 (13 + x3) ∧ w32 (13 + x3) < 146 then
        go true 2 S SN pb_X12_areSeated (n + 0) 46 [vR 21 190 0, vI x1, vI x2, vI x3, vI r4] [] (wi A3 237 ((w32 (13 + x3)).toNat) r4)
      else none
    else
    some (some (vI 1), A1) := rfl

set_option maxRecDepth 100000 in
theorem q_X12_areSeated_46 (S SN : SX) (n : Nat) (x1 : Int) (x2 : Int) (x3 : Int) (x4 : Int) (A : AH)  : go true 2 S SN pb_X12_areSeated (n + 1) 46 [vR 21 190 0, vI x1, vI x2, vI x3, vI x4] [] A =
    if (0 : Int) ≤ w32 (19 + x3) ∧ w32 (19 + x3) < 146 then
      go true 2 S SN pb_X12_areSeated (n + 0) 56 [vR 21 190 0, vI x1, vI x2, vI x3, vI x4] [] (wi A 237 ((w32 (19 + x3)).toNat) x2)
    else none := rfl

set_option maxRecDepth 100000 in
theorem q_X12_areSeated_56 (S SN : SX) (n : Nat) (x1 : Int) (x2 : Int) (x3 : Int) (u4 : AV) (A : AH)  : go true 2 S SN pb_X12_areSeated (n + 1) 56 [vR 21 190 0, vI x1, vI x2, vI x3, u4] [] A =
    go true 2 S SN pb_X12_areSeated (n + 0) 2 [vR 21 190 0, vI x1, vI x2, vI (w32 (x3 + 1)), u4] [] A := rfl

set_option maxRecDepth 100000 in
theorem q_X12_bits_0 (S SN : SX) (n : Nat) (x0 : Int) (A : AH)  : go true 0 S SN pb_X12_bits (n + 1) 0 [vI x0, vU, vU] [] A =
    go true 0 S SN pb_X12_bits (n + 0) 4 [vI x0, vI 0, vI x0] [] A := rfl

set_option maxRecDepth 100000 in
theorem q_X12_bits_4 (S SN : SX) (n : Nat) (x0 : Int) (x1 : Int) (x2 : Int) (A : AH)  : go true 0 S SN pb_X12_bits (n + 2) 4 [vI x0, vI x1, vI x2] [] A =
    if x2 = 0 then
      some (some (vI x1), A)
    else
    go true 0 S SN pb_X12_bits (n + 1) 4 [vI x0, vI (w32 (x1 + 1)), vI (band x2 (w32 (x2 - 1)))] [] A := rfl
