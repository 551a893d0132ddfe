set_option maxRecDepth 100000 in
theorem q_X12_qDropsNots_0 (S SN : SX) (n : Nat)  (A : AH)  : go true 3 S SN pb_X12_qDropsNots (n + 2) 0 [vR 21 190 0] [] A =
    if (gi A 190 5) = 0 then
      cI (S 264 [vR 21 190 0, vI 12] A) fun r2 A1 =>
      if r2 = 0 then
        some (none, A1)
      else
      go true 3 S SN pb_X12_qDropsNots (n + 1) 26 [vR 21 190 0] [] (wi A1 190 103 (w32 ((gi A1 190 103) - 1)))
    else
    some (none, A) := rfl

set_option maxRecDepth 100000 in
theorem q_X12_qDropsNots_26 (S SN : SX) (n : Nat)  (A : AH)  : go true 3 S SN pb_X12_qDropsNots (n + 1) 26 [vR 21 190 0] [] A =
    cV (S 265 [vR 21 190 0] A) fun A1 =>
    go true 3 S SN pb_X12_qDropsNots (n + 0) 0 [vR 21 190 0] [] A1 := rfl

set_option maxRecDepth 100000 in
theorem q_X12_qTest_0 (S SN : SX) (n : Nat)  (A : AH)  : go true 3 S SN pb_X12_qTest (n + 1) 0 [vR 21 190 0, vU, vU] [] A =
    go true 3 S SN pb_X12_qTest (n + 0) 2 [vR 21 190 0, vI 1, vU] [] A := rfl

set_option maxRecDepth 100000 in
theorem q_X12_qTest_2 (S SN : SX) (n : Nat) (x1 : Int) (u2 : AV) (A : AH)  : go true 3 S SN pb_X12_qTest (n + 2) 2 [vR 21 190 0, vI x1, u2] [] A =
    if x1 = 0 then
      go true 3 S SN pb_X12_qTest (n + 1) 110 [vR 21 190 0, vI x1, u2] [] A
    else
    if (gi A 190 5) = 0 then
      cI (S 155 [vR 21 190 0] A) fun r2 A1 =>
      if r2 = 91 then
        cV (S 263 [vR 21 190 0, vI 25, vI (gi A1 190 2)] A1) fun A3 =>
        go true 3 S SN pb_X12_qTest (n + 1) 44 [vR 21 190 0, vI x1, vI r2] [] (wi A3 190 2 (w32 ((gi A3 190 2) + 1)))
      else
      cI (S 156 [vR 21 190 0, vR 32 250 3] A1) fun r5 A4 =>
      if r5 = 0 then
        go true 3 S SN pb_X12_qTest (n + 0) 79 [vR 21 190 0, vI x1, vI r2] [] A4
      else
      cV (S 263 [vR 21 190 0, vI 12, vI (gi A4 190 2)] A4) fun A6 =>
      cV (S 158 [vR 21 190 0, vR 32 250 3] A6) fun A7 =>
      go true 3 S SN pb_X12_qTest (n + 0) 2 [vR 21 190 0, vI x1, vI r2] [] A7
    else
    go true 3 S SN pb_X12_qTest (n + 1) 110 [vR 21 190 0, vI x1, u2] [] A := rfl

set_option maxRecDepth 100000 in
theorem q_X12_qTest_44 (S SN : SX) (n : Nat) (x1 : Int) (x2 : Int) (A : AH)  : go true 3 S SN pb_X12_qTest (n + 1) 44 [vR 21 190 0, vI x1, vI x2] [] A =
    go true 3 S SN pb_X12_qTest (n + 0) 2 [vR 21 190 0, vI x1, vI x2] [] A := rfl

set_option maxRecDepth 100000 in
theorem q_X12_qTest_79 (S SN : SX) (n : Nat) (x1 : Int) (x2 : Int) (A : AH)  : go true 3 S SN pb_X12_qTest (n + 1) 79 [vR 21 190 0, vI x1, vI x2] [] A =
    cV (S 276 [vR 21 190 0] A) fun A1 =>
    cV (S 278 [vR 21 190 0] A1) fun A2 =>
    if (gi A2 190 5) = 0 then
      cI (S 280 [vR 21 190 0] A2) fun r4 A3 =>
      if r4 = 0 then
        go true 3 S SN pb_X12_qTest (n + 0) 105 [vR 21 190 0, vI x1, vI x2] [] A3
      else
      go true 3 S SN pb_X12_qTest (n + 0) 106 [vR 21 190 0, vI x1, vI x2] [vI 1] A3
    else
    go true 3 S SN pb_X12_qTest (n + 0) 105 [vR 21 190 0, vI x1, vI x2] [] A2 := rfl

set_option maxRecDepth 100000 in
theorem q_X12_qTest_105 (S SN : SX) (n : Nat) (x1 : Int) (x2 : Int) (A : AH)  : go true 3 S SN pb_X12_qTest (n + 1) 105 [vR 21 190 0, vI x1, vI x2] [] A =
    go true 3 S SN pb_X12_qTest (n + 0) 106 [vR 21 190 0, vI x1, vI x2] [vI 0] A := rfl

set_option maxRecDepth 100000 in
theorem q_X12_qTest_106 (S SN : SX) (n : Nat) (x1 : Int) (x2 : Int) (sx0 : Int) (A : AH)  : go true 3 S SN pb_X12_qTest (n + 1) 106 [vR 21 190 0, vI x1, vI x2] [vI sx0] A =
    go true 3 S SN pb_X12_qTest (n + 0) 2 [vR 21 190 0, vI sx0, vI x2] [] A := rfl

set_option maxRecDepth 100000 in
theorem q_X12_qTest_110 (S SN : SX) (n : Nat) (x1 : Int) (u2 : AV) (A : AH)  : go true 3 S SN pb_X12_qTest (n + 2) 110 [vR 21 190 0, vI x1, u2] [] A =
    if (gi A 190 5) = 0 then
      if 0 < (gi A 190 102) then
        cV (S 265 [vR 21 190 0] A) fun A1 =>
        go true 3 S SN pb_X12_qTest (n + 1) 110 [vR 21 190 0, vI x1, u2] [] A1
      else
      some (none, A)
    else
    some (none, A) := rfl

set_option maxRecDepth 100000 in
theorem q_X12_qGoesOnTest_0 (S SN : SX) (n : Nat)  (A : AH)  : go true 2 S SN pb_X12_qGoesOnTest (n + 1) 0 [vR 21 190 0] [] A =
    if (gi A 190 5) = 0 then
      cI (S 155 [vR 21 190 0] A) fun r2 A1 =>
      if r2 = 93 then
        cI (S 277 [vR 21 190 0] A1) fun r4 A3 =>
        if r4 = 0 then
          go true 2 S SN pb_X12_qGoesOnTest (n + 0) 76 [vR 21 190 0] [] A3
        else
        go true 2 S SN pb_X12_qGoesOnTest (n + 0) 33 [vR 21 190 0] [] (wi A3 190 2 (w32 ((gi A3 190 2) + 1)))
      else
      go true 2 S SN pb_X12_qGoesOnTest (n + 0) 76 [vR 21 190 0] [] A1
    else
    go true 2 S SN pb_X12_qGoesOnTest (n + 0) 76 [vR 21 190 0] [] A := rfl

set_option maxRecDepth 100000 in
theorem q_X12_qGoesOnTest_33 (S SN : SX) (n : Nat)  (A : AH)  : go true 2 S SN pb_X12_qGoesOnTest (n + 2) 33 [vR 21 190 0] [] A =
    cI (S 264 [vR 21 190 0, vI 25] A) fun r2 A1 =>
    if r2 = 0 then
      cV (S 265 [vR 21 190 0] A1) fun A3 =>
      go true 2 S SN pb_X12_qGoesOnTest (n + 1) 33 [vR 21 190 0] [] A3
    else
    go true 2 S SN pb_X12_qGoesOnTest (n + 0) 59 [vR 21 190 0] [] (wi A1 190 102 (w32 ((gi A1 190 102) - 1))) := rfl

set_option maxRecDepth 100000 in
theorem q_X12_qGoesOnTest_59 (S SN : SX) (n : Nat)  (A : AH)  : go true 2 S SN pb_X12_qGoesOnTest (n + 1) 59 [vR 21 190 0] [] A =
    go true 2 S SN pb_X12_qGoesOnTest (n + 0) 69 [vR 21 190 0] [] (wi A 190 103 (w32 ((gi A 190 103) - 1))) := rfl

set_option maxRecDepth 100000 in
theorem q_X12_qGoesOnTest_69 (S SN : SX) (n : Nat)  (A : AH)  : go true 2 S SN pb_X12_qGoesOnTest (n + 1) 69 [vR 21 190 0] [] A =
    cV (S 278 [vR 21 190 0] A) fun A1 =>
    go true 2 S SN pb_X12_qGoesOnTest (n + 0) 0 [vR 21 190 0] [] A1 := rfl

set_option maxRecDepth 100000 in
theorem q_X12_qGoesOnTest_76 (S SN : SX) (n : Nat)  (A : AH)  : go true 2 S SN pb_X12_qGoesOnTest (n + 4) 76 [vR 21 190 0] [] A =
    cI (S 157 [vR 21 190 0, vR 32 251 3] A) fun r2 A1 =>
    if r2 = 0 then
      cI (S 157 [vR 21 190 0, vR 32 252 2] A1) fun r4 A3 =>
      if r4 = 0 then
        if (gi A3 190 5) = 0 then
          cI (S 277 [vR 21 190 0] A3) fun r6 A5 =>
          if r6 = 0 then
            some (some (vI 0), A5)
          else
          cV (S 152 [vR 21 190 0, vI 1, vI (gi A5 190 2)] A5) fun A7 =>
          some (some (vI 0), A7)
        else
        some (some (vI 0), A3)
      else
      go true 2 S SN pb_X12_qGoesOnTest (n + 2) 137 [vR 21 190 0] [] A3
    else
    go true 2 S SN pb_X12_qGoesOnTest (n + 3) 87 [vR 21 190 0] [] A1 := rfl

set_option maxRecDepth 100000 in
theorem q_X12_qGoesOnTest_87 (S SN : SX) (n : Nat)  (A : AH)  : go true 2 S SN pb_X12_qGoesOnTest (n + 2) 87 [vR 21 190 0] [] A =
    cI (S 264 [vR 21 190 0, vI 10] A) fun r2 A1 =>
    if r2 = 0 then
      if (0 : Int) ≤ gi A1 190 102 ∧ gi A1 190 102 < 1700 then
        go true 2 S SN pb_X12_qGoesOnTest (n + 0) 114 [vR 21 190 0] [] (wi A1 268 ((gi A1 190 102).toNat) 10)
      else none
    else
    cV (S 265 [vR 21 190 0] A1) fun A3 =>
    go true 2 S SN pb_X12_qGoesOnTest (n + 1) 87 [vR 21 190 0] [] A3 := rfl

set_option maxRecDepth 100000 in
theorem q_X12_qGoesOnTest_114 (S SN : SX) (n : Nat)  (A : AH)  : go true 2 S SN pb_X12_qGoesOnTest (n + 1) 114 [vR 21 190 0] [] A =
    go true 2 S SN pb_X12_qGoesOnTest (n + 0) 124 [vR 21 190 0] [] (wi A 190 102 (w32 ((gi A 190 102) + 1))) := rfl

set_option maxRecDepth 100000 in
theorem q_X12_qGoesOnTest_124 (S SN : SX) (n : Nat)  (A : AH)  : go true 2 S SN pb_X12_qGoesOnTest (n + 1) 124 [vR 21 190 0] [] A =
    some (some (vI 1), A) := rfl

set_option maxRecDepth 100000 in
theorem q_X12_qGoesOnTest_137 (S SN : SX) (n : Nat)  (A : AH)  : go true 2 S SN pb_X12_qGoesOnTest (n + 2) 137 [vR 21 190 0] [] A =
    cI (S 264 [vR 21 190 0, vI 10] A) fun r2 A1 =>
    if r2 = 0 then
      cI (S 264 [vR 21 190 0, vI 11] A1) fun r4 A3 =>
      if r4 = 0 then
        if (0 : Int) ≤ gi A3 190 102 ∧ gi A3 190 102 < 1700 then
          go true 2 S SN pb_X12_qGoesOnTest (n + 0) 173 [vR 21 190 0] [] (wi A3 268 ((gi A3 190 102).toNat) 11)
        else none
      else
      go true 2 S SN pb_X12_qGoesOnTest (n + 1) 155 [vR 21 190 0] [] A3
    else
    go true 2 S SN pb_X12_qGoesOnTest (n + 1) 155 [vR 21 190 0] [] A1 := rfl

set_option maxRecDepth 100000 in
theorem q_X12_qGoesOnTest_155 (S SN : SX) (n : Nat)  (A : AH)  : go true 2 S SN pb_X12_qGoesOnTest (n + 1) 155 [vR 21 190 0] [] A =
    cV (S 265 [vR 21 190 0] A) fun A1 =>
    go true 2 S SN pb_X12_qGoesOnTest (n + 0) 137 [vR 21 190 0] [] A1 := rfl

set_option maxRecDepth 100000 in
theorem q_X12_qGoesOnTest_173 (S SN : SX) (n : Nat)  (A : AH)  : go true 2 S SN pb_X12_qGoesOnTest (n + 1) 173 [vR 21 190 0] [] A =
    go true 2 S SN pb_X12_qGoesOnTest (n + 0) 183 [vR 21 190 0] [] (wi A 190 102 (w32 ((gi A 190 102) + 1))) := rfl

set_option maxRecDepth 100000 in
theorem q_X12_qGoesOnTest_183 (S SN : SX) (n : Nat)  (A : AH)  : go true 2 S SN pb_X12_qGoesOnTest (n + 1) 183 [vR 21 190 0] [] A =
    some (some (vI 1), A) := rfl

set_option maxRecDepth 100000 in
theorem q_X12_qClip_0 (S SN : SX) (n : Nat) (y0 : Int) (A : AH)  : go true 1 S SN pb_X12_qClip (n + 4) 0 [vL y0, vS] [] A =
    if 0 < (lcp y0 1000000) then
      some (some (vL 1000000), A)
    else
    if (lcp y0 (-1000000)) < 0 then
      some (some (vL (-1000000)), A)
    else
    some (some (vL y0), A) := rfl

set_option maxRecDepth 100000 in
theorem q_X12_qFloor_0 (S SN : SX) (n : Nat) (y0 : Int) (y2 : Int) (A : AH)  : go true 1 S SN pb_X12_qFloor (n + 3) 0 [vL y0, vS, vL y2, vS, vU, vU] [] A =
    if (lcp y2 0) = 0 then some (some (vL 0), A) else
    if y2 = 0 then none else
    if y2 = 0 then none else
    if (lcp (y0.tmod y2) 0) = 0 then
      go true 1 S SN pb_X12_qFloor (n + 1) 53 [vL y0, vS, vL y2, vS, vL (w64 (y0.tdiv y2)), vS] [] A
    else
    if (lcp y0 0) < 0 then
      go true 1 S SN pb_X12_qFloor (n + 1) 32 [vL y0, vS, vL y2, vS, vL (w64 (y0.tdiv y2)), vS] [vI 1] A
    else
    go true 1 S SN pb_X12_qFloor (n + 0) 32 [vL y0, vS, vL y2, vS, vL (w64 (y0.tdiv y2)), vS] [vI 0] A := rfl

set_option maxRecDepth 100000 in
theorem q_X12_qFloor_32 (S SN : SX) (n : Nat) (y0 : Int) (y2 : Int) (y4 : Int) (sx0 : Int) (A : AH)  : go true 1 S SN pb_X12_qFloor (n + 2) 32 [vL y0, vS, vL y2, vS, vL y4, vS] [vI sx0] A =
    if (lcp y2 0) < 0 then
      go true 1 S SN pb_X12_qFloor (n + 1) 43 [vL y0, vS, vL y2, vS, vL y4, vS] [vI 1, vI sx0] A
    else
    go true 1 S SN pb_X12_qFloor (n + 0) 43 [vL y0, vS, vL y2, vS, vL y4, vS] [vI 0, vI sx0] A := rfl

set_option maxRecDepth 100000 in
theorem q_X12_qFloor_43 (S SN : SX) (n : Nat) (y0 : Int) (y2 : Int) (y4 : Int) (sx0 : Int) (sx1 : Int) (A : AH)  : go true 1 S SN pb_X12_qFloor (n + 2) 43 [vL y0, vS, vL y2, vS, vL y4, vS] [vI sx0, vI sx1] A =
    if sx1 = sx0 then
      go true 1 S SN pb_X12_qFloor (n + 1) 53 [vL y0, vS, vL y2, vS, vL y4, vS] [] A
    else
    some (some (vL (w64 (y4 - 1))), A) := rfl

set_option maxRecDepth 100000 in
theorem q_X12_qFloor_53 (S SN : SX) (n : Nat) (y0 : Int) (y2 : Int) (y4 : Int) (A : AH)  : go true 1 S SN pb_X12_qFloor (n + 2) 53 [vL y0, vS, vL y2, vS, vL y4, vS] [] A =
    some (some (vL y4), A) := rfl

set_option maxRecDepth 100000 in
theorem q_X12_qPuts_0 (S SN : SX) (n : Nat) (y1 : Int) (A : AH)  : go true 3 S SN pb_X12_qPuts (n + 1) 0 [vR 21 190 0, vL y1, vS] [] A =
    if (0 : Int) ≤ gi A 190 106 ∧ gi A 190 106 < 1700 then
      go true 3 S SN pb_X12_qPuts (n + 0) 10 [vR 21 190 0, vL y1, vS] [] (wi A 269 ((gi A 190 106).toNat) y1)
    else none := rfl

set_option maxRecDepth 100000 in
theorem q_X12_qPuts_10 (S SN : SX) (n : Nat) (y1 : Int) (A : AH)  : go true 3 S SN pb_X12_qPuts (n + 1) 10 [vR 21 190 0, vL y1, vS] [] A =
    go true 3 S SN pb_X12_qPuts (n + 0) 20 [vR 21 190 0, vL y1, vS] [] (wi A 190 106 (w32 ((gi A 190 106) + 1))) := rfl

set_option maxRecDepth 100000 in
theorem q_X12_qPuts_20 (S SN : SX) (n : Nat) (y1 : Int) (A : AH)  : go true 3 S SN pb_X12_qPuts (n + 1) 20 [vR 21 190 0, vL y1, vS] [] A =
    some (none, A) := rfl

set_option maxRecDepth 100000 in
theorem q_X12_qJoins_0 (S SN : SX) (n : Nat) (x1 : Int) (A : AH)  : go true 3 S SN pb_X12_qJoins (n + 1) 0 [vR 21 190 0, vI x1, vU, vU, vU, vU] [] A =
    if (0 : Int) ≤ w32 ((gi A 190 106) - 1) ∧ w32 ((gi A 190 106) - 1) < 1700 then
      if (0 : Int) ≤ w32 ((gi A 190 106) - 2) ∧ w32 ((gi A 190 106) - 2) < 1700 then
        go true 3 S SN pb_X12_qJoins (n + 0) 35 [vR 21 190 0, vI x1, vL (gi A 269 ((w32 ((gi A 190 106) - 1)).toNat)), vS, vL (gi A 269 ((w32 ((gi A 190 106) - 2)).toNat)), vS] [] (wi A 190 106 (w32 ((gi A 190 106) - 2)))
      else none
    else none := rfl

set_option maxRecDepth 100000 in
theorem q_X12_qJoins_35 (S SN : SX) (n : Nat) (x1 : Int) (y2 : Int) (y4 : Int) (A : AH)  : go true 3 S SN pb_X12_qJoins (n + 3) 35 [vR 21 190 0, vI x1, vL y2, vS, vL y4, vS] [] A =
    if x1 = 1 then
      cL (S 281 [vL (w64 (y4 + y2))] A) fun r2 A1 =>
      cV (S 283 [vR 21 190 0, vL r2] A1) fun A3 =>
      some (none, A3)
    else
    if x1 = 2 then
      cL (S 281 [vL (w64 (y4 - y2))] A) fun r5 A4 =>
      cV (S 283 [vR 21 190 0, vL r5] A4) fun A6 =>
      some (none, A6)
    else
    if x1 = 3 then
      cL (S 281 [vL (w64 (y4 * y2))] A) fun r8 A7 =>
      cV (S 283 [vR 21 190 0, vL r8] A7) fun A9 =>
      some (none, A9)
    else
    if x1 = 4 then
      cL (S 282 [vL y4, vL y2] A) fun r11 A10 =>
      cV (S 283 [vR 21 190 0, vL r11] A10) fun A12 =>
      some (none, A12)
    else
    if x1 = 5 then
      if (lcp y4 y2) < 0 then
        go true 3 S SN pb_X12_qJoins (n + 1) 161 [vR 21 190 0, vI x1, vL y2, vS, vL y4, vS] [vL y4, vR 21 190 0] A
      else
      go true 3 S SN pb_X12_qJoins (n + 0) 161 [vR 21 190 0, vI x1, vL y2, vS, vL y4, vS] [vL y2, vR 21 190 0] A
    else
    if x1 = 6 then
      if 0 < (lcp y4 y2) then
        go true 3 S SN pb_X12_qJoins (n + 1) 181 [vR 21 190 0, vI x1, vL y2, vS, vL y4, vS] [vL y4, vR 21 190 0] A
      else
      go true 3 S SN pb_X12_qJoins (n + 0) 181 [vR 21 190 0, vI x1, vL y2, vS, vL y4, vS] [vL y2, vR 21 190 0] A
    else
    if x1 = 7 then
      if (lcp y4 y2) < 0 then
        go true 3 S SN pb_X12_qJoins (n + 1) 200 [vR 21 190 0, vI x1, vL y2, vS, vL y4, vS] [vL 1, vR 21 190 0] A
      else
      go true 3 S SN pb_X12_qJoins (n + 0) 200 [vR 21 190 0, vI x1, vL y2, vS, vL y4, vS] [vL 0, vR 21 190 0] A
    else
    if x1 = 8 then
      if 0 < (lcp y4 y2) then
        go true 3 S SN pb_X12_qJoins (n + 1) 219 [vR 21 190 0, vI x1, vL y2, vS, vL y4, vS] [vL 1, vR 21 190 0] A
      else
      go true 3 S SN pb_X12_qJoins (n + 0) 219 [vR 21 190 0, vI x1, vL y2, vS, vL y4, vS] [vL 0, vR 21 190 0] A
    else
    if x1 = 9 then
      if (lcp y4 y2) = 0 then
        go true 3 S SN pb_X12_qJoins (n + 1) 238 [vR 21 190 0, vI x1, vL y2, vS, vL y4, vS] [vL 1, vR 21 190 0] A
      else
      go true 3 S SN pb_X12_qJoins (n + 0) 238 [vR 21 190 0, vI x1, vL y2, vS, vL y4, vS] [vL 0, vR 21 190 0] A
    else
    if x1 = 10 then
      cV (S 283 [vR 21 190 0, vL (w64 (y4 * y2))] A) fun A13 =>
      some (none, A13)
    else
    if 0 < (lcp (w64 (y4 + y2)) 0) then
      go true 3 S SN pb_X12_qJoins (n + 1) 270 [vR 21 190 0, vI x1, vL y2, vS, vL y4, vS] [vL 1, vR 21 190 0] A
    else
    go true 3 S SN pb_X12_qJoins (n + 0) 270 [vR 21 190 0, vI x1, vL y2, vS, vL y4, vS] [vL 0, vR 21 190 0] A := rfl

set_option maxRecDepth 100000 in
theorem q_X12_qJoins_161 (S SN : SX) (n : Nat) (x1 : Int) (y2 : Int) (y4 : Int) (sy0 : Int) (A : AH)  : go true 3 S SN pb_X12_qJoins (n + 2) 161 [vR 21 190 0, vI x1, vL y2, vS, vL y4, vS] [vL sy0, vR 21 190 0] A =
    cV (S 283 [vR 21 190 0, vL sy0] A) fun A1 =>
    some (none, A1) := rfl

set_option maxRecDepth 100000 in
theorem q_X12_qJoins_181 (S SN : SX) (n : Nat) (x1 : Int) (y2 : Int) (y4 : Int) (sy0 : Int) (A : AH)  : go true 3 S SN pb_X12_qJoins (n + 2) 181 [vR 21 190 0, vI x1, vL y2, vS, vL y4, vS] [vL sy0, vR 21 190 0] A =
    cV (S 283 [vR 21 190 0, vL sy0] A) fun A1 =>
    some (none, A1) := rfl

set_option maxRecDepth 100000 in
theorem q_X12_qJoins_200 (S SN : SX) (n : Nat) (x1 : Int) (y2 : Int) (y4 : Int) (sy0 : Int) (A : AH)  : go true 3 S SN pb_X12_qJoins (n + 2) 200 [vR 21 190 0, vI x1, vL y2, vS, vL y4, vS] [vL sy0, vR 21 190 0] A =
    cV (S 283 [vR 21 190 0, vL sy0] A) fun A1 =>
    some (none, A1) := rfl

set_option maxRecDepth 100000 in
theorem q_X12_qJoins_219 (S SN : SX) (n : Nat) (x1 : Int) (y2 : Int) (y4 : Int) (sy0 : Int) (A : AH)  : go true 3 S SN pb_X12_qJoins (n + 2) 219 [vR 21 190 0, vI x1, vL y2, vS, vL y4, vS] [vL sy0, vR 21 190 0] A =
    cV (S 283 [vR 21 190 0, vL sy0] A) fun A1 =>
    some (none, A1) := rfl

set_option maxRecDepth 100000 in
theorem q_X12_qJoins_238 (S SN : SX) (n : Nat) (x1 : Int) (y2 : Int) (y4 : Int) (sy0 : Int) (A : AH)  : go true 3 S SN pb_X12_qJoins (n + 2) 238 [vR 21 190 0, vI x1, vL y2, vS, vL y4, vS] [vL sy0, vR 21 190 0] A =
    cV (S 283 [vR 21 190 0, vL sy0] A) fun A1 =>
    some (none, A1) := rfl

set_option maxRecDepth 100000 in
theorem q_X12_qJoins_270 (S SN : SX) (n : Nat) (x1 : Int) (y2 : Int) (y4 : Int) (sy0 : Int) (A : AH)  : go true 3 S SN pb_X12_qJoins (n + 2) 270 [vR 21 190 0, vI x1, vL y2, vS, vL y4, vS] [vL sy0, vR 21 190 0] A =
    cV (S 283 [vR 21 190 0, vL sy0] A) fun A1 =>
    some (none, A1) := rfl

set_option maxRecDepth 100000 in
theorem q_X12_qPartOf_0 (S SN : SX) (n : Nat) (x1 : Int) (x2 : Int) (A : AH)  : go true 1 S SN pb_X12_qPartOf (n + 2) 0 [vR 21 190 0, vI x1, vI x2] [] A =
    if x1 = 0 then
      cI (S 203 [vR 21 190 0, vI x2] A) fun r2 A1 =>
      some (some (vL r2), A1)
    else
    if x1 = 1 then
      cI (S 204 [vR 21 190 0, vI x2] A) fun r4 A3 =>
      some (some (vL r4), A3)
    else
    if x1 = 2 then
      cI (S 207 [vR 21 190 0, vI x2] A) fun r6 A5 =>
      some (some (vL r6), A5)
    else
    if x1 = 3 then
      cI (S 208 [vR 21 190 0, vI x2] A) fun r8 A7 =>
      some (some (vL r8), A7)
    else
    if x1 = 4 then
      cI (S 209 [vR 21 190 0, vI x2] A) fun r10 A9 =>
      some (some (vL r10), A9)
    else
    if x1 = 5 then
      cI (S 199 [vR 21 190 0, vI x2] A) fun r12 A11 =>
      cI (S 210 [vR 21 190 0, vI r12, vI (gi A11 237 0)] A11) fun r14 A13 =>
      some (some (vL r14), A13)
    else
    if x1 = 6 then
      cI (S 199 [vR 21 190 0, vI x2] A) fun r16 A15 =>
      some (some (vL r16), A15)
    else
    if x1 = 7 then
      some (some (vL (gi A 237 0)), A)
    else
    if x1 = 8 then
      some (some (vL x2), A)
    else
    cI (S 205 [vR 21 190 0, vI x2] A) fun r18 A17 =>
    some (some (vL r18), A17) := rfl

set_option maxRecDepth 100000 in
theorem q_X12_qOf_0 (S SN : SX) (n : Nat) (x1 : Int) (y2 : Int) (x4 : Int) (A : AH)  : go true 1 S SN pb_X12_qOf (n + 3) 0 [vR 21 190 0, vI x1, vL y2, vS, vI x4] [] A =
    cI (S 149 [vL y2, vL 0, vL 15] A) fun r2 A1 =>
    if r2 = 0 then
      go true 1 S SN pb_X12_qOf (n + 1) 47 [vR 21 190 0, vI x1, vL y2, vS, vI x4] [] A1
    else
    cI (S 200 [vR 21 190 0, vI (w32 y2)] A1) fun r4 A3 =>
    if r4 = 0 then
      go true 1 S SN pb_X12_qOf (n + 1) 47 [vR 21 190 0, vI x1, vL y2, vS, vI x4] [] A3
    else
    cI (S 206 [vR 21 190 0, vI x4, vI (w32 y2)] A3) fun r6 A5 =>
    if r6 = 0 then
      go true 1 S SN pb_X12_qOf (n + 1) 47 [vR 21 190 0, vI x1, vL y2, vS, vI x4] [] A5
    else
    some (some (vL 1), A5) := rfl

set_option maxRecDepth 100000 in
theorem q_X12_qOf_47 (S SN : SX) (n : Nat) (x1 : Int) (y2 : Int) (x4 : Int) (A : AH)  : go true 1 S SN pb_X12_qOf (n + 2) 47 [vR 21 190 0, vI x1, vL y2, vS, vI x4] [] A =
    some (some (vL 0), A) := rfl

set_option maxRecDepth 100000 in
theorem q_X12_qTold_0 (S SN : SX) (n : Nat) (x1 : Int) (A : AH)  : go true 1 S SN pb_X12_qTold (n + 1) 0 [vR 21 190 0, vI x1, vU, vU] [] A =
    go true 1 S SN pb_X12_qTold (n + 0) 7 [vR 21 190 0, vI x1, vI 0, vU] [] (wi A 190 106 0) := rfl

set_option maxRecDepth 100000 in
theorem q_X12_qTold_7 (S SN : SX) (n : Nat) (x1 : Int) (x2 : Int) (u3 : AV) (A : AH)  : go true 1 S SN pb_X12_qTold (n + 2) 7 [vR 21 190 0, vI x1, vI x2, u3] [] A =
    if x2 < (gi A 190 100) then
      if (0 : Int) ≤ x2 ∧ x2 < 1700 then
        if (gi A 267 x2.toNat) < 1000 then
          go true 1 S SN pb_X12_qTold (n + 1) 42 [vR 21 190 0, vI x1, vI x2, vI (gi A 267 x2.toNat)] [] A
        else
        cV (S 283 [vR 21 190 0, vL (w32 ((gi A 267 x2.toNat) - 1000))] A) fun A1 =>
        go true 1 S SN pb_X12_qTold (n + 1) 162 [vR 21 190 0, vI x1, vI x2, vI (gi A 267 x2.toNat)] [] A1
      else none
    else
    some (some (vL (gi A 269 0)), A) := rfl

set_option maxRecDepth 100000 in
theorem q_X12_qTold_42 (S SN : SX) (n : Nat) (x1 : Int) (x2 : Int) (x3 : Int) (A : AH)  : go true 1 S SN pb_X12_qTold (n + 2) 42 [vR 21 190 0, vI x1, vI x2, vI x3] [] A =
    if x3 < 60 then
      if x3 < 40 then
        go true 1 S SN pb_X12_qTold (n + 0) 110 [vR 21 190 0, vI x1, vI x2, vI x3] [] A
      else
      cL (S 285 [vR 21 190 0, vI (w32 (x3 - 40)), vI x1] A) fun r6 A5 =>
      cL (S 281 [vL r6] A5) fun r8 A7 =>
      cV (S 283 [vR 21 190 0, vL r8] A7) fun A9 =>
      go true 1 S SN pb_X12_qTold (n + 0) 162 [vR 21 190 0, vI x1, vI x2, vI x3] [] A9
    else
    if (0 : Int) ≤ w32 ((gi A 190 106) - 1) ∧ w32 ((gi A 190 106) - 1) < 1700 then
      cL (S 286 [vR 21 190 0, vI (w32 (x3 - 60)), vL (gi A 269 ((w32 ((gi A 190 106) - 1)).toNat)), vI x1] A) fun r2 A1 =>
      cL (S 281 [vL r2] A1) fun r4 A3 =>
      if (0 : Int) ≤ w32 ((gi A 190 106) - 1) ∧ w32 ((gi A 190 106) - 1) < 1700 then
        go true 1 S SN pb_X12_qTold (n + 1) 82 [vR 21 190 0, vI x1, vI x2, vI x3] [] (wi A3 269 ((w32 ((gi A 190 106) - 1)).toNat) r4)
      else none
    else none := rfl

set_option maxRecDepth 100000 in
theorem q_X12_qTold_82 (S SN : SX) (n : Nat) (x1 : Int) (x2 : Int) (x3 : Int) (A : AH)  : go true 1 S SN pb_X12_qTold (n + 1) 82 [vR 21 190 0, vI x1, vI x2, vI x3] [] A =
    go true 1 S SN pb_X12_qTold (n + 0) 162 [vR 21 190 0, vI x1, vI x2, vI x3] [] A := rfl

set_option maxRecDepth 100000 in
theorem q_X12_qTold_110 (S SN : SX) (n : Nat) (x1 : Int) (x2 : Int) (x3 : Int) (A : AH)  : go true 1 S SN pb_X12_qTold (n + 3) 110 [vR 21 190 0, vI x1, vI x2, vI x3] [] A =
    if x3 = 13 then
      cV (S 283 [vR 21 190 0, vL 1] A) fun A1 =>
      go true 1 S SN pb_X12_qTold (n + 2) 162 [vR 21 190 0, vI x1, vI x2, vI x3] [] A1
    else
    if x3 = 12 then
      if (0 : Int) ≤ w32 ((gi A 190 106) - 1) ∧ w32 ((gi A 190 106) - 1) < 1700 then
        if (0 : Int) ≤ w32 ((gi A 190 106) - 1) ∧ w32 ((gi A 190 106) - 1) < 1700 then
          go true 1 S SN pb_X12_qTold (n + 1) 154 [vR 21 190 0, vI x1, vI x2, vI x3] [] (wi A 269 ((w32 ((gi A 190 106) - 1)).toNat) (w64 (1 - (gi A 269 ((w32 ((gi A 190 106) - 1)).toNat)))))
        else none
      else none
    else
    cV (S 284 [vR 21 190 0, vI x3] A) fun A2 =>
    go true 1 S SN pb_X12_qTold (n + 0) 162 [vR 21 190 0, vI x1, vI x2, vI x3] [] A2 := rfl

set_option maxRecDepth 100000 in
theorem q_X12_qTold_154 (S SN : SX) (n : Nat) (x1 : Int) (x2 : Int) (x3 : Int) (A : AH)  : go true 1 S SN pb_X12_qTold (n + 1) 154 [vR 21 190 0, vI x1, vI x2, vI x3] [] A =
    go true 1 S SN pb_X12_qTold (n + 0) 162 [vR 21 190 0, vI x1, vI x2, vI x3] [] A := rfl

set_option maxRecDepth 100000 in
theorem q_X12_qTold_162 (S SN : SX) (n : Nat) (x1 : Int) (x2 : Int) (x3 : Int) (A : AH)  : go true 1 S SN pb_X12_qTold (n + 1) 162 [vR 21 190 0, vI x1, vI x2, vI x3] [] A =
    go true 1 S SN pb_X12_qTold (n + 0) 7 [vR 21 190 0, vI x1, vI (w32 (x2 + 1)), vI x3] [] A := rfl
