set_option maxRecDepth 100000 in
theorem q_X12_costsOf_0 (S SN : SX) (n : Nat) (x1 : Int) (A : AH)  : go true 0 S SN pb_X12_costsOf (n + 1) 0 [vR 21 190 0, vI x1, vU, vU] [] A =
    go true 0 S SN pb_X12_costsOf (n + 0) 4 [vR 21 190 0, vI x1, vI 0, vI 0] [] A := rfl

set_option maxRecDepth 100000 in
theorem q_X12_costsOf_4 (S SN : SX) (n : Nat) (x1 : Int) (x2 : Int) (x3 : Int) (A : AH)  : go true 0 S SN pb_X12_costsOf (n + 2) 4 [vR 21 190 0, vI x1, vI x2, vI x3] [] A =
    cI (S 196 [vR 21 190 0] A) fun r2 A1 =>
    if x3 < r2 then
      if (band (bshr x1 x3) 1) = 1 then
        if (0 : Int) ≤ w32 (13 + (w32 (2 * x3))) ∧ w32 (13 + (w32 (2 * x3))) < 24 then
          go true 0 S SN pb_X12_costsOf (n + 1) 35 [vR 21 190 0, vI x1, vI (w32 (x2 + (gi A1 227 ((w32 (13 + (w32 (2 * x3)))).toNat)))), vI x3] [] A1
        else none
      else
      go true 0 S SN pb_X12_costsOf (n + 1) 35 [vR 21 190 0, vI x1, vI x2, vI x3] [] A1
    else
    some (some (vI x2), A1) := rfl

set_option maxRecDepth 100000 in
theorem q_X12_costsOf_35 (S SN : SX) (n : Nat) (x1 : Int) (x2 : Int) (x3 : Int) (A : AH)  : go true 0 S SN pb_X12_costsOf (n + 1) 35 [vR 21 190 0, vI x1, vI x2, vI x3] [] A =
    go true 0 S SN pb_X12_costsOf (n + 0) 4 [vR 21 190 0, vI x1, vI x2, vI (w32 (x3 + 1))] [] A := rfl

set_option maxRecDepth 100000 in
theorem q_X12_isEnough_0 (S SN : SX) (n : Nat) (x1 : Int) (x2 : Int) (x3 : Int) (x4 : Int) (A : AH)  : go true 2 S SN pb_X12_isEnough (n + 2) 0 [vR 21 190 0, vI x1, vI x2, vI x3, vI x4, vU] [] A =
    cI (S 236 [vR 21 190 0, vI x1, vI x2] A) fun r2 A1 =>
    if r2 = 0 then
      go true 2 S SN pb_X12_isEnough (n + 1) 38 [vR 21 190 0, vI x1, vI x2, vI x3, vI x4, vU] [] A1
    else
    if x2 = 0 then
      cL (S 228 [vR 21 190 0, vI x3] A1) fun r4 A3 =>
      go true 2 S SN pb_X12_isEnough (n + 1) 27 [vR 21 190 0, vI x1, vI x2, vI x3, vI x4, vU] [vL r4] A3
    else
    cL (S 228 [vR 21 190 0, vI x3] A1) fun r6 A5 =>
    go true 2 S SN pb_X12_isEnough (n + 0) 27 [vR 21 190 0, vI x1, vI x2, vI x3, vI x4, vU] [vL (w64 (-r6))] A5 := rfl

set_option maxRecDepth 100000 in
theorem q_X12_isEnough_27 (S SN : SX) (n : Nat) (x1 : Int) (x2 : Int) (x3 : Int) (x4 : Int) (u5 : AV) (sy0 : Int) (A : AH)  : go true 2 S SN pb_X12_isEnough (n + 1) 27 [vR 21 190 0, vI x1, vI x2, vI x3, vI x4, u5] [vL sy0] A =
    if (lcp sy0 x4) < 0 then
      go true 2 S SN pb_X12_isEnough (n + 0) 38 [vR 21 190 0, vI x1, vI x2, vI x3, vI x4, u5] [] A
    else
    go true 2 S SN pb_X12_isEnough (n + 0) 39 [vR 21 190 0, vI x1, vI x2, vI x3, vI x4, u5] [vI 1] A := rfl

set_option maxRecDepth 100000 in
theorem q_X12_isEnough_38 (S SN : SX) (n : Nat) (x1 : Int) (x2 : Int) (x3 : Int) (x4 : Int) (u5 : AV) (A : AH)  : go true 2 S SN pb_X12_isEnough (n + 1) 38 [vR 21 190 0, vI x1, vI x2, vI x3, vI x4, u5] [] A =
    go true 2 S SN pb_X12_isEnough (n + 0) 39 [vR 21 190 0, vI x1, vI x2, vI x3, vI x4, u5] [vI 0] A := rfl

set_option maxRecDepth 100000 in
theorem q_X12_isEnough_39 (S SN : SX) (n : Nat) (x1 : Int) (x2 : Int) (x3 : Int) (x4 : Int) (u5 : AV) (sx0 : Int) (A : AH)  : go true 2 S SN pb_X12_isEnough (n + 1) 39 [vR 21 190 0, vI x1, vI x2, vI x3, vI x4, u5] [vI sx0] A =
    cV (S 226 [vR 21 190 0] A) fun A1 =>
    if sx0 = 0 ∨ sx0 = 1 then some (some (vI sx0), A1) else
    none := rfl

set_option maxRecDepth 100000 in
theorem q_X12_hire_0 (S SN : SX) (n : Nat) (x1 : Int) (x2 : Int) (x3 : Int) (x4 : Int) (A : AH)  : go true 0 S SN pb_X12_hire (n + 2) 0 [vR 21 190 0, vI x1, vI x2, vI x3, vI x4, vU, vU, vU] [] A =
    cI (S 149 [vL x1, vL 0, vL 1] A) fun r2 A1 =>
    if r2 = 0 then
      some (some (vI (-1)), A1)
    else
    cI (S 229 [vR 21 190 0, vI x2, vI 1, vI 50] A1) fun r4 A3 =>
    if r4 = 0 then
      some (some (vI (-1)), A3)
    else
    cI (S 149 [vL x4, vL 0, vL 2] A3) fun r6 A5 =>
    if r6 = 0 then
      some (some (vI (-1)), A5)
    else
    cV (S 225 [vR 21 190 0] A5) fun A7 =>
    go true 0 S SN pb_X12_hire (n + 0) 46 [vR 21 190 0, vI x1, vI x2, vI x3, vI x4, vI 0, vI 0, vU] [] A7 := rfl

set_option maxRecDepth 100000 in
theorem q_X12_hire_46 (S SN : SX) (n : Nat) (x1 : Int) (x2 : Int) (x3 : Int) (x4 : Int) (x5 : Int) (x6 : Int) (u7 : AV) (A : AH)  : go true 0 S SN pb_X12_hire (n + 2) 46 [vR 21 190 0, vI x1, vI x2, vI x3, vI x4, vI x5, vI x6, u7] [] A =
    cI (S 196 [vR 21 190 0] A) fun r2 A1 =>
    if x6 < r2 then
      cI (S 200 [vR 21 190 0, vI (w32 (10 + x6))] A1) fun r4 A3 =>
      if r4 = 0 then
        go true 0 S SN pb_X12_hire (n + 1) 76 [vR 21 190 0, vI x1, vI x2, vI x3, vI x4, vI x5, vI x6, u7] [] A3
      else
      go true 0 S SN pb_X12_hire (n + 1) 76 [vR 21 190 0, vI x1, vI x2, vI x3, vI x4, vI (bor x5 (bshl 1 x6)), vI x6, u7] [] A3
    else
    go true 0 S SN pb_X12_hire (n + 0) 88 [vR 21 190 0, vI x1, vI x2, vI x3, vI x4, vI x5, vI (-1), vI 0] [] A1 := rfl

set_option maxRecDepth 100000 in
theorem q_X12_hire_76 (S SN : SX) (n : Nat) (x1 : Int) (x2 : Int) (x3 : Int) (x4 : Int) (x5 : Int) (x6 : Int) (u7 : AV) (A : AH)  : go true 0 S SN pb_X12_hire (n + 1) 76 [vR 21 190 0, vI x1, vI x2, vI x3, vI x4, vI x5, vI x6, u7] [] A =
    go true 0 S SN pb_X12_hire (n + 0) 46 [vR 21 190 0, vI x1, vI x2, vI x3, vI x4, vI x5, vI (w32 (x6 + 1)), u7] [] A := rfl

set_option maxRecDepth 100000 in
theorem q_X12_hire_88 (S SN : SX) (n : Nat) (x1 : Int) (x2 : Int) (x3 : Int) (x4 : Int) (x5 : Int) (x6 : Int) (x7 : Int) (A : AH)  : go true 0 S SN pb_X12_hire (n + 3) 88 [vR 21 190 0, vI x1, vI x2, vI x3, vI x4, vI x5, vI x6, vI x7] [] A =
    cI (S 196 [vR 21 190 0] A) fun r2 A1 =>
    if x7 < (bshl 1 r2) then
      if (band x7 x5) = 0 then
        if x6 = (-1) then
          go true 0 S SN pb_X12_hire (n + 2) 157 [vR 21 190 0, vI x1, vI x2, vI x3, vI x4, vI x5, vI x6, vI x7] [] A1
        else
        cI (S 237 [vI x7] A1) fun r4 A3 =>
        cI (S 237 [vI x6] A3) fun r6 A5 =>
        if r6 < r4 then
          go true 0 S SN pb_X12_hire (n + 2) 173 [vR 21 190 0, vI x1, vI x2, vI x3, vI x4, vI x5, vI x6, vI x7] [] A5
        else
        cI (S 237 [vI x7] A5) fun r8 A7 =>
        cI (S 237 [vI x6] A7) fun r10 A9 =>
        if r8 = r10 then
          cI (S 238 [vR 21 190 0, vI x7] A9) fun r12 A11 =>
          cI (S 238 [vR 21 190 0, vI x6] A11) fun r14 A13 =>
          if r12 < r14 then
            go true 0 S SN pb_X12_hire (n + 2) 157 [vR 21 190 0, vI x1, vI x2, vI x3, vI x4, vI x5, vI x6, vI x7] [] A13
          else
          go true 0 S SN pb_X12_hire (n + 2) 173 [vR 21 190 0, vI x1, vI x2, vI x3, vI x4, vI x5, vI x6, vI x7] [] A13
        else
        go true 0 S SN pb_X12_hire (n + 2) 157 [vR 21 190 0, vI x1, vI x2, vI x3, vI x4, vI x5, vI x6, vI x7] [] A9
      else
      go true 0 S SN pb_X12_hire (n + 2) 173 [vR 21 190 0, vI x1, vI x2, vI x3, vI x4, vI x5, vI x6, vI x7] [] A1
    else
    if x6 = (-1) then
      some (some (vI (-1)), A1)
    else
    go true 0 S SN pb_X12_hire (n + 1) 189 [vR 21 190 0, vI x1, vI x2, vI x3, vI x4, vI x5, vI x6, vI x7] [] A1 := rfl

set_option maxRecDepth 100000 in
theorem q_X12_hire_157 (S SN : SX) (n : Nat) (x1 : Int) (x2 : Int) (x3 : Int) (x4 : Int) (x5 : Int) (x6 : Int) (x7 : Int) (A : AH)  : go true 0 S SN pb_X12_hire (n + 1) 157 [vR 21 190 0, vI x1, vI x2, vI x3, vI x4, vI x5, vI x6, vI x7] [] A =
    cI (S 239 [vR 21 190 0, vI x7, vI x1, vI x2, vI x3] A) fun r2 A1 =>
    if r2 = 0 then
      go true 0 S SN pb_X12_hire (n + 0) 173 [vR 21 190 0, vI x1, vI x2, vI x3, vI x4, vI x5, vI x6, vI x7] [] A1
    else
    go true 0 S SN pb_X12_hire (n + 0) 173 [vR 21 190 0, vI x1, vI x2, vI x3, vI x4, vI x5, vI x7, vI x7] [] A1 := rfl

set_option maxRecDepth 100000 in
theorem q_X12_hire_173 (S SN : SX) (n : Nat) (x1 : Int) (x2 : Int) (x3 : Int) (x4 : Int) (x5 : Int) (x6 : Int) (x7 : Int) (A : AH)  : go true 0 S SN pb_X12_hire (n + 1) 173 [vR 21 190 0, vI x1, vI x2, vI x3, vI x4, vI x5, vI x6, vI x7] [] A =
    go true 0 S SN pb_X12_hire (n + 0) 88 [vR 21 190 0, vI x1, vI x2, vI x3, vI x4, vI x5, vI x6, vI (w32 (x7 + 1))] [] A := rfl

set_option maxRecDepth 100000 in
theorem q_X12_hire_189 (S SN : SX) (n : Nat) (x1 : Int) (x2 : Int) (x3 : Int) (x4 : Int) (x5 : Int) (x6 : Int) (x7 : Int) (A : AH)  : go true 0 S SN pb_X12_hire (n + 4) 189 [vR 21 190 0, vI x1, vI x2, vI x3, vI x4, vI x5, vI x6, vI x7] [] A =
    if x4 = 0 then
      cI (S 237 [vI x6] A) fun r2 A1 =>
      some (some (vI r2), A1)
    else
    if x4 = 1 then
      some (some (vI x6), A)
    else
    cI (S 238 [vR 21 190 0, vI x6] A) fun r4 A3 =>
    some (some (vI r4), A3) := rfl

set_option maxRecDepth 100000 in
theorem q_X12_changes_0 (S SN : SX) (n : Nat) (x1 : Int) (x2 : Int) (A : AH)  : go true 3 S SN pb_X12_changes (n + 1) 0 [vR 21 190 0, vI x1, vI x2, vU] [] A =
    cI (S 199 [vR 21 190 0, vI x1] A) fun r2 A1 =>
    cI (S 199 [vR 21 190 0, vI x2] A1) fun r4 A3 =>
    if (0 : Int) ≤ w32 (3 + x1) ∧ w32 (3 + x1) < 146 then
      go true 3 S SN pb_X12_changes (n + 0) 19 [vR 21 190 0, vI x1, vI x2, vI r2] [] (wi A3 237 ((w32 (3 + x1)).toNat) r4)
    else none := rfl

set_option maxRecDepth 100000 in
theorem q_X12_changes_19 (S SN : SX) (n : Nat) (x1 : Int) (x2 : Int) (x3 : Int) (A : AH)  : go true 3 S SN pb_X12_changes (n + 1) 19 [vR 21 190 0, vI x1, vI x2, vI x3] [] A =
    if (0 : Int) ≤ w32 (3 + x2) ∧ w32 (3 + x2) < 146 then
      go true 3 S SN pb_X12_changes (n + 0) 28 [vR 21 190 0, vI x1, vI x2, vI x3] [] (wi A 237 ((w32 (3 + x2)).toNat) x3)
    else none := rfl

set_option maxRecDepth 100000 in
theorem q_X12_changes_28 (S SN : SX) (n : Nat) (x1 : Int) (x2 : Int) (x3 : Int) (A : AH)  : go true 3 S SN pb_X12_changes (n + 1) 28 [vR 21 190 0, vI x1, vI x2, vI x3] [] A =
    some (none, A) := rfl

set_option maxRecDepth 100000 in
theorem q_X12_change_0 (S SN : SX) (n : Nat) (x1 : Int) (x2 : Int) (A : AH)  : go true 0 S SN pb_X12_change (n + 3) 0 [vR 21 190 0, vI x1, vI x2, vU, vU, vU, vU, vU, vU, vU, vU, vU] [] A =
    cI (S 149 [vL x1, vL 0, vL 1] A) fun r2 A1 =>
    if r2 = 0 then
      some (some (vI (-1)), A1)
    else
    cI (S 149 [vL x2, vL 0, vL 1] A1) fun r4 A3 =>
    if r4 = 0 then
      some (some (vI (-1)), A3)
    else
    if x1 = 0 then
      go true 0 S SN pb_X12_change (n + 1) 31 [vR 21 190 0, vI x1, vI x2, vU, vU, vU, vU, vU, vU, vU, vU, vU] [vI 1] A3
    else
    go true 0 S SN pb_X12_change (n + 0) 31 [vR 21 190 0, vI x1, vI x2, vU, vU, vU, vU, vU, vU, vU, vU, vU] [vI (-1)] A3 := rfl

set_option maxRecDepth 100000 in
theorem q_X12_change_31 (S SN : SX) (n : Nat) (x1 : Int) (x2 : Int) (u3 : AV) (u4 : AV) (u5 : AV) (u6 : AV) (u7 : AV) (u8 : AV) (u9 : AV) (u10 : AV) (u11 : AV) (sx0 : Int) (A : AH)  : go true 0 S SN pb_X12_change (n + 1) 31 [vR 21 190 0, vI x1, vI x2, u3, u4, u5, u6, u7, u8, u9, u10, u11] [vI sx0] A =
    cL (S 227 [vR 21 190 0] A) fun r2 A1 =>
    go true 0 S SN pb_X12_change (n + 0) 50 [vR 21 190 0, vI x1, vI x2, vI sx0, vL (w64 (sx0 * r2)), vS, vI (-1), vI (-1), vI 0, u9, u10, u11] [] A1 := rfl

set_option maxRecDepth 100000 in
theorem q_X12_change_50 (S SN : SX) (n : Nat) (x1 : Int) (x2 : Int) (x3 : Int) (y4 : Int) (x6 : Int) (x7 : Int) (x8 : Int) (u9 : AV) (u10 : AV) (u11 : AV) (A : AH)  : go true 0 S SN pb_X12_change (n + 4) 50 [vR 21 190 0, vI x1, vI x2, vI x3, vL y4, vS, vI x6, vI x7, vI x8, u9, u10, u11] [] A =
    if x8 < 16 then
      go true 0 S SN pb_X12_change (n + 3) 63 [vR 21 190 0, vI x1, vI x2, vI x3, vL y4, vS, vI x6, vI x7, vI x8, vI (w32 (x8 + 1)), u10, u11] [] A
    else
    if x2 = 0 then
      some (some (vI x6), A)
    else
    some (some (vI x7), A) := rfl

set_option maxRecDepth 100000 in
theorem q_X12_change_63 (S SN : SX) (n : Nat) (x1 : Int) (x2 : Int) (x3 : Int) (y4 : Int) (x6 : Int) (x7 : Int) (x8 : Int) (x9 : Int) (u10 : AV) (u11 : AV) (A : AH)  : go true 0 S SN pb_X12_change (n + 3) 63 [vR 21 190 0, vI x1, vI x2, vI x3, vL y4, vS, vI x6, vI x7, vI x8, vI x9, u10, u11] [] A =
    if x9 < 16 then
      cI (S 200 [vR 21 190 0, vI x8] A) fun r2 A1 =>
      if r2 = 0 then
        go true 0 S SN pb_X12_change (n + 2) 139 [vR 21 190 0, vI x1, vI x2, vI x3, vL y4, vS, vI x6, vI x7, vI x8, vI x9, u10, u11] [] A1
      else
      cI (S 200 [vR 21 190 0, vI x9] A1) fun r4 A3 =>
      if r4 = 0 then
        go true 0 S SN pb_X12_change (n + 2) 139 [vR 21 190 0, vI x1, vI x2, vI x3, vL y4, vS, vI x6, vI x7, vI x8, vI x9, u10, u11] [] A3
      else
      cV (S 241 [vR 21 190 0, vI x8, vI x9] A3) fun A5 =>
      cL (S 227 [vR 21 190 0] A5) fun r7 A6 =>
      cV (S 241 [vR 21 190 0, vI x8, vI x9] A6) fun A8 =>
      if 0 < (lcp (w64 (x3 * r7)) y4) then
        go true 0 S SN pb_X12_change (n + 0) 139 [vR 21 190 0, vI x1, vI x2, vI x3, vL (w64 (x3 * r7)), vS, vI x8, vI x9, vI x8, vI x9, vL (w64 (x3 * r7)), vS] [] A8
      else
      go true 0 S SN pb_X12_change (n + 1) 139 [vR 21 190 0, vI x1, vI x2, vI x3, vL y4, vS, vI x6, vI x7, vI x8, vI x9, vL (w64 (x3 * r7)), vS] [] A8
    else
    go true 0 S SN pb_X12_change (n + 1) 50 [vR 21 190 0, vI x1, vI x2, vI x3, vL y4, vS, vI x6, vI x7, vI (w32 (x8 + 1)), vI x9, u10, u11] [] A := rfl

set_option maxRecDepth 100000 in
theorem q_X12_change_139 (S SN : SX) (n : Nat) (x1 : Int) (x2 : Int) (x3 : Int) (y4 : Int) (x6 : Int) (x7 : Int) (x8 : Int) (x9 : Int) (u10 : AV) (u11 : AV) (A : AH)  : go true 0 S SN pb_X12_change (n + 1) 139 [vR 21 190 0, vI x1, vI x2, vI x3, vL y4, vS, vI x6, vI x7, vI x8, vI x9, u10, u11] [] A =
    go true 0 S SN pb_X12_change (n + 0) 63 [vR 21 190 0, vI x1, vI x2, vI x3, vL y4, vS, vI x6, vI x7, vI x8, vI (w32 (x9 + 1)), u10, u11] [] A := rfl

set_option maxRecDepth 100000 in
theorem q_X12_laysPointMoves_0 (S SN : SX) (n : Nat) (x1 : Int) (A : AH)  : go true 3 S SN pb_X12_laysPointMoves (n + 1) 0 [vR 21 190 0, vI x1, vU, vU, vU, vU] [] A =
    go true 3 S SN pb_X12_laysPointMoves (n + 0) 17 [vR 21 190 0, vI x1, vI (gi A 237 0), vI (gi A 237 2), vI 0, vU] [] A := rfl

set_option maxRecDepth 100000 in
theorem q_X12_laysPointMoves_17 (S SN : SX) (n : Nat) (x1 : Int) (x2 : Int) (x3 : Int) (x4 : Int) (u5 : AV) (A : AH)  : go true 3 S SN pb_X12_laysPointMoves (n + 2) 17 [vR 21 190 0, vI x1, vI x2, vI x3, vI x4, u5] [] A =
    if x4 < x1 then
      go true 3 S SN pb_X12_laysPointMoves (n + 1) 26 [vR 21 190 0, vI x1, vI x2, vI x3, vI x4, vI 0] [] A
    else
    go true 3 S SN pb_X12_laysPointMoves (n + 0) 95 [vR 21 190 0, vI x1, vI x2, vI x3, vI x4, u5] [] (wi (wi A 237 0 x2) 237 2 x3) := rfl

set_option maxRecDepth 100000 in
theorem q_X12_laysPointMoves_26 (S SN : SX) (n : Nat) (x1 : Int) (x2 : Int) (x3 : Int) (x4 : Int) (x5 : Int) (A : AH)  : go true 3 S SN pb_X12_laysPointMoves (n + 2) 26 [vR 21 190 0, vI x1, vI x2, vI x3, vI x4, vI x5] [] A =
    cI (S 197 [vR 21 190 0] A) fun r2 A1 =>
    if x5 < r2 then
      go true 3 S SN pb_X12_laysPointMoves (n + 1) 43 [vR 21 190 0, vI x1, vI x2, vI x3, vI x4, vI x5] [] (wi A1 237 2 x5)
    else
    go true 3 S SN pb_X12_laysPointMoves (n + 0) 75 [vR 21 190 0, vI x1, vI x2, vI x3, vI x4, vI x5] [] (wi A1 237 0 (w32 ((gi A1 237 0) + 1))) := rfl

set_option maxRecDepth 100000 in
theorem q_X12_laysPointMoves_43 (S SN : SX) (n : Nat) (x1 : Int) (x2 : Int) (x3 : Int) (x4 : Int) (x5 : Int) (A : AH)  : go true 3 S SN pb_X12_laysPointMoves (n + 1) 43 [vR 21 190 0, vI x1, vI x2, vI x3, vI x4, vI x5] [] A =
    cL (S 227 [vR 21 190 0] A) fun r2 A1 =>
    if (0 : Int) ≤ w32 ((w32 (4 * x4)) + x5) ∧ w32 ((w32 (4 * x4)) + x5) < 12 then
      go true 3 S SN pb_X12_laysPointMoves (n + 0) 59 [vR 21 190 0, vI x1, vI x2, vI x3, vI x4, vI x5] [] (wi A1 242 ((w32 ((w32 (4 * x4)) + x5)).toNat) r2)
    else none := rfl

set_option maxRecDepth 100000 in
theorem q_X12_laysPointMoves_59 (S SN : SX) (n : Nat) (x1 : Int) (x2 : Int) (x3 : Int) (x4 : Int) (x5 : Int) (A : AH)  : go true 3 S SN pb_X12_laysPointMoves (n + 1) 59 [vR 21 190 0, vI x1, vI x2, vI x3, vI x4, vI x5] [] A =
    go true 3 S SN pb_X12_laysPointMoves (n + 0) 26 [vR 21 190 0, vI x1, vI x2, vI x3, vI x4, vI (w32 (x5 + 1))] [] A := rfl

set_option maxRecDepth 100000 in
theorem q_X12_laysPointMoves_75 (S SN : SX) (n : Nat) (x1 : Int) (x2 : Int) (x3 : Int) (x4 : Int) (x5 : Int) (A : AH)  : go true 3 S SN pb_X12_laysPointMoves (n + 1) 75 [vR 21 190 0, vI x1, vI x2, vI x3, vI x4, vI x5] [] A =
    go true 3 S SN pb_X12_laysPointMoves (n + 0) 17 [vR 21 190 0, vI x1, vI x2, vI x3, vI (w32 (x4 + 1)), vI x5] [] A := rfl

set_option maxRecDepth 100000 in
theorem q_X12_laysPointMoves_95 (S SN : SX) (n : Nat) (x1 : Int) (x2 : Int) (x3 : Int) (x4 : Int) (u5 : AV) (A : AH)  : go true 3 S SN pb_X12_laysPointMoves (n + 1) 95 [vR 21 190 0, vI x1, vI x2, vI x3, vI x4, u5] [] A =
    some (none, A) := rfl

set_option maxRecDepth 100000 in
theorem q_X12_bestPoint_0 (S SN : SX) (n : Nat) (x1 : Int) (A : AH)  : go true 0 S SN pb_X12_bestPoint (n + 1) 0 [vR 21 190 0, vI x1, vU, vU, vU, vU] [] A =
    go true 0 S SN pb_X12_bestPoint (n + 0) 4 [vR 21 190 0, vI x1, vI 0, vI 1, vU, vU] [] A := rfl

set_option maxRecDepth 100000 in
theorem q_X12_bestPoint_4 (S SN : SX) (n : Nat) (x1 : Int) (x2 : Int) (x3 : Int) (u4 : AV) (u5 : AV) (A : AH)  : go true 0 S SN pb_X12_bestPoint (n + 2) 4 [vR 21 190 0, vI x1, vI x2, vI x3, u4, u5] [] A =
    cI (S 197 [vR 21 190 0] A) fun r2 A1 =>
    if x3 < r2 then
      if (0 : Int) ≤ w32 ((w32 (4 * x1)) + x3) ∧ w32 ((w32 (4 * x1)) + x3) < 12 then
        if (0 : Int) ≤ w32 ((w32 (4 * x1)) + x2) ∧ w32 ((w32 (4 * x1)) + x2) < 12 then
          go true 0 S SN pb_X12_bestPoint (n + 1) 35 [vR 21 190 0, vI x1, vI x2, vI x3, vL (w64 ((gi A1 242 ((w32 ((w32 (4 * x1)) + x3)).toNat)) - (gi A1 242 ((w32 ((w32 (4 * x1)) + x2)).toNat)))), vS] [] A1
        else none
      else none
    else
    some (some (vI x2), A1) := rfl

set_option maxRecDepth 100000 in
theorem q_X12_bestPoint_35 (S SN : SX) (n : Nat) (x1 : Int) (x2 : Int) (x3 : Int) (y4 : Int) (A : AH)  : go true 0 S SN pb_X12_bestPoint (n + 2) 35 [vR 21 190 0, vI x1, vI x2, vI x3, vL y4, vS] [] A =
    if (x1.tmod 2) = 0 then
      if 0 < (lcp y4 0) then
        go true 0 S SN pb_X12_bestPoint (n + 1) 58 [vR 21 190 0, vI x1, vI x2, vI x3, vL y4, vS] [] A
      else
      go true 0 S SN pb_X12_bestPoint (n + 1) 60 [vR 21 190 0, vI x1, vI x2, vI x3, vL y4, vS] [] A
    else
    if (lcp y4 0) < 0 then
      go true 0 S SN pb_X12_bestPoint (n + 0) 58 [vR 21 190 0, vI x1, vI x2, vI x3, vL y4, vS] [] A
    else
    go true 0 S SN pb_X12_bestPoint (n + 0) 60 [vR 21 190 0, vI x1, vI x2, vI x3, vL y4, vS] [] A := rfl

set_option maxRecDepth 100000 in
theorem q_X12_bestPoint_58 (S SN : SX) (n : Nat) (x1 : Int) (x2 : Int) (x3 : Int) (y4 : Int) (A : AH)  : go true 0 S SN pb_X12_bestPoint (n + 1) 58 [vR 21 190 0, vI x1, vI x2, vI x3, vL y4, vS] [] A =
    go true 0 S SN pb_X12_bestPoint (n + 0) 60 [vR 21 190 0, vI x1, vI x3, vI x3, vL y4, vS] [] A := rfl

set_option maxRecDepth 100000 in
theorem q_X12_bestPoint_60 (S SN : SX) (n : Nat) (x1 : Int) (x2 : Int) (x3 : Int) (y4 : Int) (A : AH)  : go true 0 S SN pb_X12_bestPoint (n + 1) 60 [vR 21 190 0, vI x1, vI x2, vI x3, vL y4, vS] [] A =
    go true 0 S SN pb_X12_bestPoint (n + 0) 4 [vR 21 190 0, vI x1, vI x2, vI (w32 (x3 + 1)), vL y4, vS] [] A := rfl

set_option maxRecDepth 100000 in
theorem q_X12_points_0 (S SN : SX) (n : Nat) (x1 : Int) (x2 : Int) (A : AH)  : go true 1 S SN pb_X12_points (n + 2) 0 [vR 21 190 0, vI x1, vI x2, vU, vU, vU] [] A =
    cI (S 197 [vR 21 190 0] A) fun r2 A1 =>
    if r2 = 0 then
      some (some (vL (-1000000000000000)), A1)
    else
    cI (S 229 [vR 21 190 0, vI x1, vI 1, vI 3] A1) fun r4 A3 =>
    if r4 = 0 then
      some (some (vL (-1000000000000000)), A3)
    else
    if x2 = (-1) then
      go true 1 S SN pb_X12_points (n + 1) 39 [vR 21 190 0, vI x1, vI x2, vU, vU, vU] [] A3
    else
    cI (S 149 [vL x2, vL 0, vL (w32 (x1 - 1))] A3) fun r6 A5 =>
    if r6 = 0 then
      some (some (vL (-1000000000000000)), A5)
    else
    go true 1 S SN pb_X12_points (n + 1) 39 [vR 21 190 0, vI x1, vI x2, vU, vU, vU] [] A5 := rfl

set_option maxRecDepth 100000 in
theorem q_X12_points_39 (S SN : SX) (n : Nat) (x1 : Int) (x2 : Int) (u3 : AV) (u4 : AV) (u5 : AV) (A : AH)  : go true 1 S SN pb_X12_points (n + 2) 39 [vR 21 190 0, vI x1, vI x2, u3, u4, u5] [] A =
    cV (S 243 [vR 21 190 0, vI x1] A) fun A1 =>
    if x2 = (-1) then
      go true 1 S SN pb_X12_points (n + 0) 71 [vR 21 190 0, vI x1, vI x2, vL (w64 (100 * (gi A1 237 1))), vS, vI 0] [] A1
    else
    cI (S 244 [vR 21 190 0, vI x2] A1) fun r3 A2 =>
    some (some (vL r3), A2) := rfl

set_option maxRecDepth 100000 in
theorem q_X12_points_71 (S SN : SX) (n : Nat) (x1 : Int) (x2 : Int) (y3 : Int) (x5 : Int) (A : AH)  : go true 1 S SN pb_X12_points (n + 2) 71 [vR 21 190 0, vI x1, vI x2, vL y3, vS, vI x5] [] A =
    if x5 < x1 then
      cI (S 244 [vR 21 190 0, vI x5] A) fun r2 A1 =>
      if (0 : Int) ≤ w32 ((w32 (4 * x5)) + r2) ∧ w32 ((w32 (4 * x5)) + r2) < 12 then
        go true 1 S SN pb_X12_points (n + 1) 71 [vR 21 190 0, vI x1, vI x2, vL (w64 (y3 + (gi A1 242 ((w32 ((w32 (4 * x5)) + r2)).toNat)))), vS, vI (w32 (x5 + 1))] [] A1
      else none
    else
    some (some (vL y3), A) := rfl

set_option maxRecDepth 100000 in
theorem q_X12_peopleIn_0 (S SN : SX) (n : Nat) (x1 : Int) (A : AH)  : go true 0 S SN pb_X12_peopleIn (n + 1) 0 [vR 21 190 0, vI x1, vU, vU] [] A =
    go true 0 S SN pb_X12_peopleIn (n + 0) 4 [vR 21 190 0, vI x1, vI 0, vI 0] [] A := rfl

set_option maxRecDepth 100000 in
theorem q_X12_peopleIn_4 (S SN : SX) (n : Nat) (x1 : Int) (x2 : Int) (x3 : Int) (A : AH)  : go true 0 S SN pb_X12_peopleIn (n + 2) 4 [vR 21 190 0, vI x1, vI x2, vI x3] [] A =
    if x3 < (gi A 190 69) then
      if (band (bshr x1 x3) 1) = 1 then
        if (0 : Int) ≤ x3 ∧ x3 < 8 then
          go true 0 S SN pb_X12_peopleIn (n + 1) 32 [vR 21 190 0, vI x1, vI (bor x2 (bshl 1 (gi A 239 x3.toNat))), vI x3] [] A
        else none
      else
      go true 0 S SN pb_X12_peopleIn (n + 1) 32 [vR 21 190 0, vI x1, vI x2, vI x3] [] A
    else
    some (some (vI x2), A) := rfl

set_option maxRecDepth 100000 in
theorem q_X12_peopleIn_32 (S SN : SX) (n : Nat) (x1 : Int) (x2 : Int) (x3 : Int) (A : AH)  : go true 0 S SN pb_X12_peopleIn (n + 1) 32 [vR 21 190 0, vI x1, vI x2, vI x3] [] A =
    go true 0 S SN pb_X12_peopleIn (n + 0) 4 [vR 21 190 0, vI x1, vI x2, vI (w32 (x3 + 1))] [] A := rfl

set_option maxRecDepth 100000 in
theorem q_X12_fell_0 (S SN : SX) (n : Nat) (x1 : Int) (x2 : Int) (A : AH)  : go true 0 S SN pb_X12_fell (n + 2) 0 [vR 21 190 0, vI x1, vI x2, vU, vU, vU, vU] [] A =
    cI (S 149 [vL x2, vL 0, vL 2] A) fun r2 A1 =>
    if r2 = 0 then some (some (vI (-1)), A1) else
    cV (S 231 [vR 21 190 0] A1) fun A3 =>
    cI (S 195 [vR 21 190 0] A3) fun r5 A4 =>
    go true 0 S SN pb_X12_fell (n + 0) 36 [vR 21 190 0, vI x1, vI x2, vI 0, vI (w32 ((bshl 1 r5) - 1)), vI 0, vI 0] [] A4 := rfl

set_option maxRecDepth 100000 in
theorem q_X12_fell_36 (S SN : SX) (n : Nat) (x1 : Int) (x2 : Int) (x3 : Int) (x4 : Int) (x5 : Int) (x6 : Int) (A : AH)  : go true 0 S SN pb_X12_fell (n + 5) 36 [vR 21 190 0, vI x1, vI x2, vI x3, vI x4, vI x5, vI x6] [] A =
    if x6 < (bshl 1 (gi A 190 69)) then
      cI (S 232 [vR 21 190 0, vI x6] A) fun r2 A1 =>
      if r2 = x1 then
        cI (S 246 [vR 21 190 0, vI x6] A1) fun r4 A3 =>
        cI (S 246 [vR 21 190 0, vI x6] A3) fun r6 A5 =>
        go true 0 S SN pb_X12_fell (n + 3) 85 [vR 21 190 0, vI x1, vI x2, vI (w32 (x3 + 1)), vI (band x4 r4), vI (bor x5 r6), vI x6] [] A5
      else
      go true 0 S SN pb_X12_fell (n + 4) 85 [vR 21 190 0, vI x1, vI x2, vI x3, vI x4, vI x5, vI x6] [] A1
    else
    if x2 = 0 then
      some (some (vI x3), A)
    else
    if x2 = 1 then
      if x3 = 0 then
        some (some (vI 0), A)
      else
      some (some (vI x4), A)
    else
    some (some (vI x5), A) := rfl

set_option maxRecDepth 100000 in
theorem q_X12_fell_85 (S SN : SX) (n : Nat) (x1 : Int) (x2 : Int) (x3 : Int) (x4 : Int) (x5 : Int) (x6 : Int) (A : AH)  : go true 0 S SN pb_X12_fell (n + 1) 85 [vR 21 190 0, vI x1, vI x2, vI x3, vI x4, vI x5, vI x6] [] A =
    go true 0 S SN pb_X12_fell (n + 0) 36 [vR 21 190 0, vI x1, vI x2, vI x3, vI x4, vI x5, vI (w32 (x6 + 1))] [] A := rfl
