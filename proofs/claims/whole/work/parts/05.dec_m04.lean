set_option maxRecDepth 100000 in
theorem q_X12_sumsTold_0 (S SN : SX) (n : Nat)  (A : AH)  : go true 3 S SN pb_X12_sumsTold (n + 1) 0 [vR 21 190 0, vU, vU] [] A =
    go true 3 S SN pb_X12_sumsTold (n + 0) 13 [vR 21 190 0, vI (gi A 190 59), vU] [] (wi A 190 59 (gi A 190 57)) := rfl

set_option maxRecDepth 100000 in
theorem q_X12_sumsTold_13 (S SN : SX) (n : Nat) (x1 : Int) (u2 : AV) (A : AH)  : go true 3 S SN pb_X12_sumsTold (n + 1) 13 [vR 21 190 0, vI x1, u2] [] A =
    go true 3 S SN pb_X12_sumsTold (n + 0) 15 [vR 21 190 0, vI x1, vI 1] [] A := rfl

set_option maxRecDepth 100000 in
theorem q_X12_sumsTold_15 (S SN : SX) (n : Nat) (x1 : Int) (x2 : Int) (A : AH)  : go true 3 S SN pb_X12_sumsTold (n + 1) 15 [vR 21 190 0, vI x1, vI x2] [] A =
    if x2 = 0 then
      go true 3 S SN pb_X12_sumsTold (n + 0) 53 [vR 21 190 0, vI x1, vI x2] [] A
    else
    if (gi A 190 5) = 0 then
      cV (S 186 [vR 21 190 0] A) fun A1 =>
      if (gi A1 190 5) = 0 then
        cI (S 187 [vR 21 190 0] A1) fun r3 A2 =>
        if r3 = 0 then
          go true 3 S SN pb_X12_sumsTold (n + 0) 48 [vR 21 190 0, vI x1, vI x2] [] A2
        else
        go true 3 S SN pb_X12_sumsTold (n + 0) 49 [vR 21 190 0, vI x1, vI x2] [vI 1] A2
      else
      go true 3 S SN pb_X12_sumsTold (n + 0) 48 [vR 21 190 0, vI x1, vI x2] [] A1
    else
    go true 3 S SN pb_X12_sumsTold (n + 0) 53 [vR 21 190 0, vI x1, vI x2] [] A := rfl

set_option maxRecDepth 100000 in
theorem q_X12_sumsTold_48 (S SN : SX) (n : Nat) (x1 : Int) (x2 : Int) (A : AH)  : go true 3 S SN pb_X12_sumsTold (n + 1) 48 [vR 21 190 0, vI x1, vI x2] [] A =
    go true 3 S SN pb_X12_sumsTold (n + 0) 49 [vR 21 190 0, vI x1, vI x2] [vI 0] A := rfl

set_option maxRecDepth 100000 in
theorem q_X12_sumsTold_49 (S SN : SX) (n : Nat) (x1 : Int) (x2 : Int) (sx0 : Int) (A : AH)  : go true 3 S SN pb_X12_sumsTold (n + 1) 49 [vR 21 190 0, vI x1, vI x2] [vI sx0] A =
    go true 3 S SN pb_X12_sumsTold (n + 0) 15 [vR 21 190 0, vI x1, vI sx0] [] A := rfl

set_option maxRecDepth 100000 in
theorem q_X12_sumsTold_53 (S SN : SX) (n : Nat) (x1 : Int) (x2 : Int) (A : AH)  : go true 3 S SN pb_X12_sumsTold (n + 1) 53 [vR 21 190 0, vI x1, vI x2] [] A =
    if (gi A 190 5) = 0 then
      if (gi A 190 59) < (gi A 190 57) then
        cV (S 182 [vR 21 190 0] A) fun A1 =>
        go true 3 S SN pb_X12_sumsTold (n + 0) 53 [vR 21 190 0, vI x1, vI x2] [] A1
      else
      go true 3 S SN pb_X12_sumsTold (n + 0) 78 [vR 21 190 0, vI x1, vI x2] [] A
    else
    go true 3 S SN pb_X12_sumsTold (n + 0) 78 [vR 21 190 0, vI x1, vI x2] [] A := rfl

set_option maxRecDepth 100000 in
theorem q_X12_sumsTold_78 (S SN : SX) (n : Nat) (x1 : Int) (x2 : Int) (A : AH)  : go true 3 S SN pb_X12_sumsTold (n + 1) 78 [vR 21 190 0, vI x1, vI x2] [] A =
    some (none, wi A 190 59 x1) := rfl

set_option maxRecDepth 100000 in
theorem q_X12_fault_0 (S SN : SX) (n : Nat) (x1 : Int) (A : AH)  : go true 0 S SN pb_X12_fault (n + 4) 0 [vR 21 190 0, vI x1] [] A =
    if x1 = 0 then
      some (some (vI (gi A 190 7)), A)
    else
    if x1 = 1 then
      some (some (vI (gi A 190 8)), A)
    else
    some (some (vI (-1)), A) := rfl

set_option maxRecDepth 100000 in
theorem q_X12_clip_0 (S SN : SX) (n : Nat) (y0 : Int) (A : AH)  : go true 1 S SN pb_X12_clip (n + 4) 0 [vL y0, vS] [] A =
    if 0 < (lcp y0 1000000) then
      some (some (vL 1000000), A)
    else
    if (lcp y0 (-1000000)) < 0 then
      some (some (vL (-1000000)), A)
    else
    some (some (vL y0), A) := rfl

set_option maxRecDepth 100000 in
theorem q_X12_floor_0 (S SN : SX) (n : Nat) (y0 : Int) (y2 : Int) (A : AH)  : go true 1 S SN pb_X12_floor (n + 3) 0 [vL y0, vS, vL y2, vS, vU, vU] [] A =
    if (lcp y2 0) = 0 then some (some (vL 0), A) else
    if y2 = 0 then none else
    if y2 = 0 then none else
    if (lcp (y0.tmod y2) 0) = 0 then
      go true 1 S SN pb_X12_floor (n + 1) 53 [vL y0, vS, vL y2, vS, vL (w64 (y0.tdiv y2)), vS] [] A
    else
    if (lcp y0 0) < 0 then
      go true 1 S SN pb_X12_floor (n + 1) 32 [vL y0, vS, vL y2, vS, vL (w64 (y0.tdiv y2)), vS] [vI 1] A
    else
    go true 1 S SN pb_X12_floor (n + 0) 32 [vL y0, vS, vL y2, vS, vL (w64 (y0.tdiv y2)), vS] [vI 0] A := rfl

set_option maxRecDepth 100000 in
theorem q_X12_floor_32 (S SN : SX) (n : Nat) (y0 : Int) (y2 : Int) (y4 : Int) (sx0 : Int) (A : AH)  : go true 1 S SN pb_X12_floor (n + 2) 32 [vL y0, vS, vL y2, vS, vL y4, vS] [vI sx0] A =
    if (lcp y2 0) < 0 then
      go true 1 S SN pb_X12_floor (n + 1) 43 [vL y0, vS, vL y2, vS, vL y4, vS] [vI 1, vI sx0] A
    else
    go true 1 S SN pb_X12_floor (n + 0) 43 [vL y0, vS, vL y2, vS, vL y4, vS] [vI 0, vI sx0] A := rfl

set_option maxRecDepth 100000 in
theorem q_X12_floor_43 (S SN : SX) (n : Nat) (y0 : Int) (y2 : Int) (y4 : Int) (sx0 : Int) (sx1 : Int) (A : AH)  : go true 1 S SN pb_X12_floor (n + 2) 43 [vL y0, vS, vL y2, vS, vL y4, vS] [vI sx0, vI sx1] A =
    if sx1 = sx0 then
      go true 1 S SN pb_X12_floor (n + 1) 53 [vL y0, vS, vL y2, vS, vL y4, vS] [] A
    else
    some (some (vL (w64 (y4 - 1))), A) := rfl

set_option maxRecDepth 100000 in
theorem q_X12_floor_53 (S SN : SX) (n : Nat) (y0 : Int) (y2 : Int) (y4 : Int) (A : AH)  : go true 1 S SN pb_X12_floor (n + 2) 53 [vL y0, vS, vL y2, vS, vL y4, vS] [] A =
    some (some (vL y4), A) := rfl

set_option maxRecDepth 100000 in
theorem q_X12_puts_0 (S SN : SX) (n : Nat) (y1 : Int) (A : AH)  : go true 3 S SN pb_X12_puts (n + 1) 0 [vR 21 190 0, vL y1, vS] [] A =
    if (0 : Int) ≤ gi A 190 61 ∧ gi A 190 61 < 1700 then
      go true 3 S SN pb_X12_puts (n + 0) 10 [vR 21 190 0, vL y1, vS] [] (wi A 235 ((gi A 190 61).toNat) y1)
    else none := rfl

set_option maxRecDepth 100000 in
theorem q_X12_puts_10 (S SN : SX) (n : Nat) (y1 : Int) (A : AH)  : go true 3 S SN pb_X12_puts (n + 1) 10 [vR 21 190 0, vL y1, vS] [] A =
    go true 3 S SN pb_X12_puts (n + 0) 20 [vR 21 190 0, vL y1, vS] [] (wi A 190 61 (w32 ((gi A 190 61) + 1))) := rfl

set_option maxRecDepth 100000 in
theorem q_X12_puts_20 (S SN : SX) (n : Nat) (y1 : Int) (A : AH)  : go true 3 S SN pb_X12_puts (n + 1) 20 [vR 21 190 0, vL y1, vS] [] A =
    some (none, A) := rfl

set_option maxRecDepth 100000 in
theorem q_X12_joins_0 (S SN : SX) (n : Nat) (x1 : Int) (A : AH)  : go true 3 S SN pb_X12_joins (n + 1) 0 [vR 21 190 0, vI x1, vU, vU, vU, vU] [] A =
    if (0 : Int) ≤ w32 ((gi A 190 61) - 1) ∧ w32 ((gi A 190 61) - 1) < 1700 then
      if (0 : Int) ≤ w32 ((gi A 190 61) - 2) ∧ w32 ((gi A 190 61) - 2) < 1700 then
        go true 3 S SN pb_X12_joins (n + 0) 35 [vR 21 190 0, vI x1, vL (gi A 235 ((w32 ((gi A 190 61) - 1)).toNat)), vS, vL (gi A 235 ((w32 ((gi A 190 61) - 2)).toNat)), vS] [] (wi A 190 61 (w32 ((gi A 190 61) - 2)))
      else none
    else none := rfl

set_option maxRecDepth 100000 in
theorem q_X12_joins_35 (S SN : SX) (n : Nat) (x1 : Int) (y2 : Int) (y4 : Int) (A : AH)  : go true 3 S SN pb_X12_joins (n + 3) 35 [vR 21 190 0, vI x1, vL y2, vS, vL y4, vS] [] A =
    if x1 = 1 then
      cL (S 190 [vL (w64 (y4 + y2))] A) fun r2 A1 =>
      cV (S 192 [vR 21 190 0, vL r2] A1) fun A3 =>
      some (none, A3)
    else
    if x1 = 2 then
      cL (S 190 [vL (w64 (y4 - y2))] A) fun r5 A4 =>
      cV (S 192 [vR 21 190 0, vL r5] A4) fun A6 =>
      some (none, A6)
    else
    if x1 = 3 then
      cL (S 190 [vL (w64 (y4 * y2))] A) fun r8 A7 =>
      cV (S 192 [vR 21 190 0, vL r8] A7) fun A9 =>
      some (none, A9)
    else
    if x1 = 4 then
      cL (S 191 [vL y4, vL y2] A) fun r11 A10 =>
      cV (S 192 [vR 21 190 0, vL r11] A10) fun A12 =>
      some (none, A12)
    else
    if x1 = 5 then
      if (lcp y4 y2) < 0 then
        go true 3 S SN pb_X12_joins (n + 1) 141 [vR 21 190 0, vI x1, vL y2, vS, vL y4, vS] [vL y4, vR 21 190 0] A
      else
      go true 3 S SN pb_X12_joins (n + 0) 141 [vR 21 190 0, vI x1, vL y2, vS, vL y4, vS] [vL y2, vR 21 190 0] A
    else
    if 0 < (lcp y4 y2) then
      go true 3 S SN pb_X12_joins (n + 1) 161 [vR 21 190 0, vI x1, vL y2, vS, vL y4, vS] [vL y4, vR 21 190 0] A
    else
    go true 3 S SN pb_X12_joins (n + 0) 161 [vR 21 190 0, vI x1, vL y2, vS, vL y4, vS] [vL y2, vR 21 190 0] A := rfl

set_option maxRecDepth 100000 in
theorem q_X12_joins_141 (S SN : SX) (n : Nat) (x1 : Int) (y2 : Int) (y4 : Int) (sy0 : Int) (A : AH)  : go true 3 S SN pb_X12_joins (n + 2) 141 [vR 21 190 0, vI x1, vL y2, vS, vL y4, vS] [vL sy0, vR 21 190 0] A =
    cV (S 192 [vR 21 190 0, vL sy0] A) fun A1 =>
    some (none, A1) := rfl

set_option maxRecDepth 100000 in
theorem q_X12_joins_161 (S SN : SX) (n : Nat) (x1 : Int) (y2 : Int) (y4 : Int) (sy0 : Int) (A : AH)  : go true 3 S SN pb_X12_joins (n + 2) 161 [vR 21 190 0, vI x1, vL y2, vS, vL y4, vS] [vL sy0, vR 21 190 0] A =
    cV (S 192 [vR 21 190 0, vL sy0] A) fun A1 =>
    some (none, A1) := rfl

set_option maxRecDepth 100000 in
theorem q_X12_seatMany_0 (S SN : SX) (n : Nat)  (A : AH)  : go true 0 S SN pb_X12_seatMany (n + 1) 0 [vR 21 190 0] [] A =
    some (some (vI (gi A 224 11)), A) := rfl

set_option maxRecDepth 100000 in
theorem q_X12_peopleMany_0 (S SN : SX) (n : Nat)  (A : AH)  : go true 0 S SN pb_X12_peopleMany (n + 1) 0 [vR 21 190 0] [] A =
    some (some (vI (gi A 224 6)), A) := rfl

set_option maxRecDepth 100000 in
theorem q_X12_muteMany_0 (S SN : SX) (n : Nat)  (A : AH)  : go true 0 S SN pb_X12_muteMany (n + 1) 0 [vR 21 190 0] [] A =
    some (some (vI (gi A 224 7)), A) := rfl

set_option maxRecDepth 100000 in
theorem q_X12_pointMany_0 (S SN : SX) (n : Nat)  (A : AH)  : go true 0 S SN pb_X12_pointMany (n + 1) 0 [vR 21 190 0] [] A =
    some (some (vI (gi A 224 8)), A) := rfl
