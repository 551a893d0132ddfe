set_option maxRecDepth 100000 in
theorem q_X12_hatedOf_0 (S SN : SX) (n : Nat) (x1 : Int) (A : AH)  : go true 0 S SN pb_X12_hatedOf (n + 1) 0 [vR 21 190 0, vI x1, vU, vU] [] A =
    go true 0 S SN pb_X12_hatedOf (n + 0) 4 [vR 21 190 0, vI x1, vI 0, vI 0] [] A := rfl

set_option maxRecDepth 100000 in
theorem q_X12_hatedOf_4 (S SN : SX) (n : Nat) (x1 : Int) (x2 : Int) (x3 : Int) (A : AH)  : go true 0 S SN pb_X12_hatedOf (n + 2) 4 [vR 21 190 0, vI x1, vI x2, vI x3] [] A =
    if x3 < 16 then
      cI (S 200 [vR 21 190 0, vI x3] A) fun r2 A1 =>
      if r2 = 0 then
        go true 0 S SN pb_X12_hatedOf (n + 1) 59 [vR 21 190 0, vI x1, vI x2, vI x3] [] A1
      else
      cI (S 206 [vR 21 190 0, vI x3, vI x1] A1) fun r4 A3 =>
      if r4 = 0 then
        go true 0 S SN pb_X12_hatedOf (n + 1) 59 [vR 21 190 0, vI x1, vI x2, vI x3] [] A3
      else
      if (0 : Int) ≤ w32 (16 + x3) ∧ w32 (16 + x3) < 32 then
        if (0 : Int) ≤ w32 (16 + x1) ∧ w32 (16 + x1) < 32 then
          if (band (bor (bshr (gi A3 230 ((w32 (16 + x3)).toNat)) x1) (bshr (gi A3 230 ((w32 (16 + x1)).toNat)) x3)) 1) = 1 then
            go true 0 S SN pb_X12_hatedOf (n + 1) 59 [vR 21 190 0, vI x1, vI (w32 (x2 + 1)), vI x3] [] A3
          else
          go true 0 S SN pb_X12_hatedOf (n + 1) 59 [vR 21 190 0, vI x1, vI x2, vI x3] [] A3
        else none
      else none
    else
    some (some (vI x2), A) := rfl

set_option maxRecDepth 100000 in
theorem q_X12_hatedOf_59 (S SN : SX) (n : Nat) (x1 : Int) (x2 : Int) (x3 : Int) (A : AH)  : go true 0 S SN pb_X12_hatedOf (n + 1) 59 [vR 21 190 0, vI x1, vI x2, vI x3] [] A =
    go true 0 S SN pb_X12_hatedOf (n + 0) 4 [vR 21 190 0, vI x1, vI x2, vI (w32 (x3 + 1))] [] A := rfl

set_option maxRecDepth 100000 in
theorem q_X12_askedOf_0 (S SN : SX) (n : Nat) (x1 : Int) (A : AH)  : go true 0 S SN pb_X12_askedOf (n + 3) 0 [vR 21 190 0, vI x1, vU] [] A =
    cI (S 205 [vR 21 190 0, vI x1] A) fun r2 A1 =>
    if (gi A1 237 2) = (-1) then
      go true 0 S SN pb_X12_askedOf (n + 2) 21 [vR 21 190 0, vI x1, vI r2] [] A1
    else
    if r2 = 2 then
      go true 0 S SN pb_X12_askedOf (n + 2) 21 [vR 21 190 0, vI x1, vI r2] [] A1
    else
    if (0 : Int) ≤ w32 ((w32 (8 + (w32 (2 * (gi A1 237 2))))) + r2) ∧ w32 ((w32 (8 + (w32 (2 * (gi A1 237 2))))) + r2) < 16 then
      some (some (vI (gi A1 228 ((w32 ((w32 (8 + (w32 (2 * (gi A1 237 2))))) + r2)).toNat))), A1)
    else none := rfl

set_option maxRecDepth 100000 in
theorem q_X12_askedOf_21 (S SN : SX) (n : Nat) (x1 : Int) (x2 : Int) (A : AH)  : go true 0 S SN pb_X12_askedOf (n + 2) 21 [vR 21 190 0, vI x1, vI x2] [] A =
    some (some (vI 0), A) := rfl

set_option maxRecDepth 100000 in
theorem q_X12_noiseAt_0 (S SN : SX) (n : Nat) (x1 : Int) (x2 : Int) (A : AH)  : go true 0 S SN pb_X12_noiseAt (n + 1) 0 [vR 21 190 0, vI x1, vI x2, vU, vU, vU, vU] [] A =
    go true 0 S SN pb_X12_noiseAt (n + 0) 5 [vR 21 190 0, vI x1, vI x2, vI 0, vI 0, vU, vU] [] A := rfl

set_option maxRecDepth 100000 in
theorem q_X12_noiseAt_5 (S SN : SX) (n : Nat) (x1 : Int) (x2 : Int) (x3 : Int) (x4 : Int) (u5 : AV) (u6 : AV) (A : AH)  : go true 0 S SN pb_X12_noiseAt (n + 2) 5 [vR 21 190 0, vI x1, vI x2, vI x3, vI x4, u5, u6] [] A =
    if x4 < (gi A 224 9) then
      if x4 = (gi A 190 65) then
        go true 0 S SN pb_X12_noiseAt (n + 1) 99 [vR 21 190 0, vI x1, vI x2, vI x3, vI x4, u5, u6] [] A
      else
      if (0 : Int) ≤ w32 (18 + (w32 (3 * x4))) ∧ w32 (18 + (w32 (3 * x4))) < 36 then
        if (gi A 229 ((w32 (18 + (w32 (3 * x4)))).toNat)) = x2 then
          go true 0 S SN pb_X12_noiseAt (n + 1) 45 [vR 21 190 0, vI x1, vI x2, vI x3, vI x4, u5, u6] [] A
        else
        go true 0 S SN pb_X12_noiseAt (n + 1) 99 [vR 21 190 0, vI x1, vI x2, vI x3, vI x4, u5, u6] [] A
      else none
    else
    some (some (vI x3), A) := rfl

set_option maxRecDepth 100000 in
theorem q_X12_noiseAt_45 (S SN : SX) (n : Nat) (x1 : Int) (x2 : Int) (x3 : Int) (x4 : Int) (u5 : AV) (u6 : AV) (A : AH)  : go true 0 S SN pb_X12_noiseAt (n + 2) 45 [vR 21 190 0, vI x1, vI x2, vI x3, vI x4, u5, u6] [] A =
    if (0 : Int) ≤ w32 (19 + (w32 (3 * x4))) ∧ w32 (19 + (w32 (3 * x4))) < 36 then
      if (0 : Int) ≤ w32 (20 + (w32 (3 * x4))) ∧ w32 (20 + (w32 (3 * x4))) < 36 then
        if (w32 ((gi A 229 ((w32 (19 + (w32 (3 * x4)))).toNat)) - x1)) < 0 then
          go true 0 S SN pb_X12_noiseAt (n + 1) 86 [vR 21 190 0, vI x1, vI x2, vI x3, vI x4, vI (w32 ((gi A 229 ((w32 (19 + (w32 (3 * x4)))).toNat)) - x1)), u6] [vI (w32 (-(w32 ((gi A 229 ((w32 (19 + (w32 (3 * x4)))).toNat)) - x1)))), vI (gi A 229 ((w32 (20 + (w32 (3 * x4)))).toNat))] A
        else
        go true 0 S SN pb_X12_noiseAt (n + 0) 86 [vR 21 190 0, vI x1, vI x2, vI x3, vI x4, vI (w32 ((gi A 229 ((w32 (19 + (w32 (3 * x4)))).toNat)) - x1)), u6] [vI (w32 ((gi A 229 ((w32 (19 + (w32 (3 * x4)))).toNat)) - x1)), vI (gi A 229 ((w32 (20 + (w32 (3 * x4)))).toNat))] A
      else none
    else none := rfl

set_option maxRecDepth 100000 in
theorem q_X12_noiseAt_86 (S SN : SX) (n : Nat) (x1 : Int) (x2 : Int) (x3 : Int) (x4 : Int) (x5 : Int) (u6 : AV) (sx0 : Int) (sx1 : Int) (A : AH)  : go true 0 S SN pb_X12_noiseAt (n + 1) 86 [vR 21 190 0, vI x1, vI x2, vI x3, vI x4, vI x5, u6] [vI sx0, vI sx1] A =
    if 0 < (w32 (sx1 - sx0)) then
      go true 0 S SN pb_X12_noiseAt (n + 0) 99 [vR 21 190 0, vI x1, vI x2, vI (w32 (x3 + (w32 (sx1 - sx0)))), vI x4, vI x5, vI (w32 (sx1 - sx0))] [] A
    else
    go true 0 S SN pb_X12_noiseAt (n + 0) 99 [vR 21 190 0, vI x1, vI x2, vI x3, vI x4, vI x5, vI (w32 (sx1 - sx0))] [] A := rfl

set_option maxRecDepth 100000 in
theorem q_X12_noiseAt_99 (S SN : SX) (n : Nat) (x1 : Int) (x2 : Int) (x3 : Int) (x4 : Int) (u5 : AV) (u6 : AV) (A : AH)  : go true 0 S SN pb_X12_noiseAt (n + 1) 99 [vR 21 190 0, vI x1, vI x2, vI x3, vI x4, u5, u6] [] A =
    go true 0 S SN pb_X12_noiseAt (n + 0) 5 [vR 21 190 0, vI x1, vI x2, vI x3, vI (w32 (x4 + 1)), u5, u6] [] A := rfl

set_option maxRecDepth 100000 in
theorem q_X12_told_0 (S SN : SX) (n : Nat) (x1 : Int) (x2 : Int) (A : AH)  : go true 0 S SN pb_X12_told (n + 1) 0 [vR 21 190 0, vI x1, vI x2, vU, vU] [] A =
    cI (S 203 [vR 21 190 0, vI x2] A) fun r2 A1 =>
    go true 0 S SN pb_X12_told (n + 0) 11 [vR 21 190 0, vI x1, vI x2, vU, vU] [] (wi A1 236 0 r2) := rfl

set_option maxRecDepth 100000 in
theorem q_X12_told_11 (S SN : SX) (n : Nat) (x1 : Int) (x2 : Int) (u3 : AV) (u4 : AV) (A : AH)  : go true 0 S SN pb_X12_told (n + 1) 11 [vR 21 190 0, vI x1, vI x2, u3, u4] [] A =
    cI (S 204 [vR 21 190 0, vI x2] A) fun r2 A1 =>
    go true 0 S SN pb_X12_told (n + 0) 22 [vR 21 190 0, vI x1, vI x2, u3, u4] [] (wi A1 236 1 r2) := rfl

set_option maxRecDepth 100000 in
theorem q_X12_told_22 (S SN : SX) (n : Nat) (x1 : Int) (x2 : Int) (u3 : AV) (u4 : AV) (A : AH)  : go true 0 S SN pb_X12_told (n + 1) 22 [vR 21 190 0, vI x1, vI x2, u3, u4] [] A =
    cI (S 207 [vR 21 190 0, vI x2] A) fun r2 A1 =>
    go true 0 S SN pb_X12_told (n + 0) 33 [vR 21 190 0, vI x1, vI x2, u3, u4] [] (wi A1 236 2 r2) := rfl

set_option maxRecDepth 100000 in
theorem q_X12_told_33 (S SN : SX) (n : Nat) (x1 : Int) (x2 : Int) (u3 : AV) (u4 : AV) (A : AH)  : go true 0 S SN pb_X12_told (n + 1) 33 [vR 21 190 0, vI x1, vI x2, u3, u4] [] A =
    cI (S 208 [vR 21 190 0, vI x2] A) fun r2 A1 =>
    go true 0 S SN pb_X12_told (n + 0) 44 [vR 21 190 0, vI x1, vI x2, u3, u4] [] (wi A1 236 3 r2) := rfl

set_option maxRecDepth 100000 in
theorem q_X12_told_44 (S SN : SX) (n : Nat) (x1 : Int) (x2 : Int) (u3 : AV) (u4 : AV) (A : AH)  : go true 0 S SN pb_X12_told (n + 1) 44 [vR 21 190 0, vI x1, vI x2, u3, u4] [] A =
    cI (S 209 [vR 21 190 0, vI x2] A) fun r2 A1 =>
    go true 0 S SN pb_X12_told (n + 0) 55 [vR 21 190 0, vI x1, vI x2, u3, u4] [] (wi A1 236 4 r2) := rfl

set_option maxRecDepth 100000 in
theorem q_X12_told_55 (S SN : SX) (n : Nat) (x1 : Int) (x2 : Int) (u3 : AV) (u4 : AV) (A : AH)  : go true 0 S SN pb_X12_told (n + 1) 55 [vR 21 190 0, vI x1, vI x2, u3, u4] [] A =
    cI (S 199 [vR 21 190 0, vI x2] A) fun r2 A1 =>
    cI (S 210 [vR 21 190 0, vI r2, vI (gi A1 237 0)] A1) fun r4 A3 =>
    go true 0 S SN pb_X12_told (n + 0) 76 [vR 21 190 0, vI x1, vI x2, u3, u4] [] (wi A3 236 5 r4) := rfl

set_option maxRecDepth 100000 in
theorem q_X12_told_76 (S SN : SX) (n : Nat) (x1 : Int) (x2 : Int) (u3 : AV) (u4 : AV) (A : AH)  : go true 0 S SN pb_X12_told (n + 1) 76 [vR 21 190 0, vI x1, vI x2, u3, u4] [] A =
    cI (S 199 [vR 21 190 0, vI x2] A) fun r2 A1 =>
    go true 0 S SN pb_X12_told (n + 0) 88 [vR 21 190 0, vI x1, vI x2, u3, u4] [] (wi A1 236 6 r2) := rfl

set_option maxRecDepth 100000 in
theorem q_X12_told_88 (S SN : SX) (n : Nat) (x1 : Int) (x2 : Int) (u3 : AV) (u4 : AV) (A : AH)  : go true 0 S SN pb_X12_told (n + 1) 88 [vR 21 190 0, vI x1, vI x2, u3, u4] [] A =
    go true 0 S SN pb_X12_told (n + 0) 101 [vR 21 190 0, vI x1, vI x2, u3, u4] [] (wi A 236 7 (gi A 237 0)) := rfl

set_option maxRecDepth 100000 in
theorem q_X12_told_101 (S SN : SX) (n : Nat) (x1 : Int) (x2 : Int) (u3 : AV) (u4 : AV) (A : AH)  : go true 0 S SN pb_X12_told (n + 1) 101 [vR 21 190 0, vI x1, vI x2, u3, u4] [] A =
    if (0 : Int) ≤ w32 (2 + x1) ∧ w32 (2 + x1) < 4 then
      go true 0 S SN pb_X12_told (n + 0) 115 [vR 21 190 0, vI x1, vI x2, vI (gi (wi A 190 61 0) 231 ((w32 (2 + x1)).toNat)), u4] [] (wi A 190 61 0)
    else none := rfl

set_option maxRecDepth 100000 in
theorem q_X12_told_115 (S SN : SX) (n : Nat) (x1 : Int) (x2 : Int) (x3 : Int) (u4 : AV) (A : AH)  : go true 0 S SN pb_X12_told (n + 3) 115 [vR 21 190 0, vI x1, vI x2, vI x3, u4] [] A =
    if (0 : Int) ≤ w32 (2 + x1) ∧ w32 (2 + x1) < 4 then
      if x3 < (gi A 232 ((w32 (2 + x1)).toNat)) then
        if (0 : Int) ≤ w32 (1600 + x3) ∧ w32 (1600 + x3) < 3200 then
          if (gi A 233 ((w32 (1600 + x3)).toNat)) < 1000 then
            cI (S 149 [vL (gi A 233 ((w32 (1600 + x3)).toNat)), vL 7, vL 14] A) fun r3 A2 =>
            if r3 = 0 then
              go true 0 S SN pb_X12_told (n + 1) 194 [vR 21 190 0, vI x1, vI x2, vI x3, vI (gi A 233 ((w32 (1600 + x3)).toNat))] [] A2
            else
            if (0 : Int) ≤ w32 ((gi A 233 ((w32 (1600 + x3)).toNat)) - 7) ∧ w32 ((gi A 233 ((w32 (1600 + x3)).toNat)) - 7) < 8 then
              cV (S 192 [vR 21 190 0, vL (gi A2 236 ((w32 ((gi A 233 ((w32 (1600 + x3)).toNat)) - 7)).toNat))] A2) fun A4 =>
              go true 0 S SN pb_X12_told (n + 1) 200 [vR 21 190 0, vI x1, vI x2, vI x3, vI (gi A 233 ((w32 (1600 + x3)).toNat))] [] A4
            else none
          else
          cV (S 192 [vR 21 190 0, vL (w32 ((gi A 233 ((w32 (1600 + x3)).toNat)) - 1000))] A) fun A1 =>
          go true 0 S SN pb_X12_told (n + 2) 158 [vR 21 190 0, vI x1, vI x2, vI x3, vI (gi A 233 ((w32 (1600 + x3)).toNat))] [] A1
        else none
      else
      if (lcp (gi A 235 0) 0) < 0 then
        some (some (vI 0), A)
      else
      go true 0 S SN pb_X12_told (n + 1) 221 [vR 21 190 0, vI x1, vI x2, vI x3, u4] [] A
    else none := rfl

set_option maxRecDepth 100000 in
theorem q_X12_told_158 (S SN : SX) (n : Nat) (x1 : Int) (x2 : Int) (x3 : Int) (x4 : Int) (A : AH)  : go true 0 S SN pb_X12_told (n + 1) 158 [vR 21 190 0, vI x1, vI x2, vI x3, vI x4] [] A =
    go true 0 S SN pb_X12_told (n + 0) 200 [vR 21 190 0, vI x1, vI x2, vI x3, vI x4] [] A := rfl

set_option maxRecDepth 100000 in
theorem q_X12_told_194 (S SN : SX) (n : Nat) (x1 : Int) (x2 : Int) (x3 : Int) (x4 : Int) (A : AH)  : go true 0 S SN pb_X12_told (n + 1) 194 [vR 21 190 0, vI x1, vI x2, vI x3, vI x4] [] A =
    cV (S 193 [vR 21 190 0, vI x4] A) fun A1 =>
    go true 0 S SN pb_X12_told (n + 0) 200 [vR 21 190 0, vI x1, vI x2, vI x3, vI x4] [] A1 := rfl

set_option maxRecDepth 100000 in
theorem q_X12_told_200 (S SN : SX) (n : Nat) (x1 : Int) (x2 : Int) (x3 : Int) (x4 : Int) (A : AH)  : go true 0 S SN pb_X12_told (n + 1) 200 [vR 21 190 0, vI x1, vI x2, vI x3, vI x4] [] A =
    go true 0 S SN pb_X12_told (n + 0) 115 [vR 21 190 0, vI x1, vI x2, vI (w32 (x3 + 1)), vI x4] [] A := rfl

set_option maxRecDepth 100000 in
theorem q_X12_told_221 (S SN : SX) (n : Nat) (x1 : Int) (x2 : Int) (x3 : Int) (u4 : AV) (A : AH)  : go true 0 S SN pb_X12_told (n + 3) 221 [vR 21 190 0, vI x1, vI x2, vI x3, u4] [] A =
    if 0 < (lcp (gi A 235 0) 999) then
      some (some (vI 999), A)
    else
    some (some (vI (w32 (gi A 235 0))), A) := rfl

set_option maxRecDepth 100000 in
theorem q_X12_weightOf_0 (S SN : SX) (n : Nat) (x1 : Int) (A : AH)  : go true 0 S SN pb_X12_weightOf (n + 3) 0 [vR 21 190 0, vI x1] [] A =
    if (gi A 231 2) = (-1) then
      cI (S 203 [vR 21 190 0, vI x1] A) fun r2 A1 =>
      some (some (vI r2), A1)
    else
    cI (S 211 [vR 21 190 0, vI 0, vI x1] A) fun r4 A3 =>
    some (some (vI r4), A3) := rfl

set_option maxRecDepth 100000 in
theorem q_X12_coughOf_0 (S SN : SX) (n : Nat) (x1 : Int) (A : AH)  : go true 0 S SN pb_X12_coughOf (n + 3) 0 [vR 21 190 0, vI x1] [] A =
    if (gi A 231 3) = (-1) then
      some (some (vI 5), A)
    else
    cI (S 211 [vR 21 190 0, vI 1, vI x1] A) fun r2 A1 =>
    some (some (vI r2), A1) := rfl

set_option maxRecDepth 100000 in
theorem q_X12_signOf_0 (S SN : SX) (n : Nat) (x1 : Int) (A : AH)  : go true 0 S SN pb_X12_signOf (n + 4) 0 [vR 21 190 0, vI x1, vU] [] A =
    cI (S 205 [vR 21 190 0, vI x1] A) fun r2 A1 =>
    if r2 = 0 then
      some (some (vI 1), A1)
    else
    if r2 = 1 then
      some (some (vI (-1)), A1)
    else
    some (some (vI 0), A1) := rfl

set_option maxRecDepth 100000 in
theorem q_X12_moves_0 (S SN : SX) (n : Nat) (x1 : Int) (x2 : Int) (A : AH)  : go true 0 S SN pb_X12_moves (n + 3) 0 [vR 21 190 0, vI x1, vI x2] [] A =
    cI (S 214 [vR 21 190 0, vI x1] A) fun r2 A1 =>
    if x2 = 0 then
      cI (S 212 [vR 21 190 0, vI x1] A1) fun r6 A5 =>
      some (some (vI (w32 (r2 * r6))), A5)
    else
    cI (S 213 [vR 21 190 0, vI x1] A1) fun r4 A3 =>
    some (some (vI (w32 (r2 * (w32 (-r4))))), A3) := rfl

set_option maxRecDepth 100000 in
theorem q_X12_hiredMany_0 (S SN : SX) (n : Nat)  (A : AH)  : go true 0 S SN pb_X12_hiredMany (n + 1) 0 [vR 21 190 0, vU, vU] [] A =
    go true 0 S SN pb_X12_hiredMany (n + 0) 4 [vR 21 190 0, vI 0, vI 0] [] A := rfl

set_option maxRecDepth 100000 in
theorem q_X12_hiredMany_4 (S SN : SX) (n : Nat) (x1 : Int) (x2 : Int) (A : AH)  : go true 0 S SN pb_X12_hiredMany (n + 2) 4 [vR 21 190 0, vI x1, vI x2] [] A =
    cI (S 196 [vR 21 190 0] A) fun r2 A1 =>
    if x2 < r2 then
      cI (S 200 [vR 21 190 0, vI (w32 (10 + x2))] A1) fun r4 A3 =>
      if r4 = 0 then
        go true 0 S SN pb_X12_hiredMany (n + 1) 26 [vR 21 190 0, vI x1, vI x2] [] A3
      else
      go true 0 S SN pb_X12_hiredMany (n + 1) 26 [vR 21 190 0, vI (w32 (x1 + 1)), vI x2] [] A3
    else
    some (some (vI x1), A1) := rfl

set_option maxRecDepth 100000 in
theorem q_X12_hiredMany_26 (S SN : SX) (n : Nat) (x1 : Int) (x2 : Int) (A : AH)  : go true 0 S SN pb_X12_hiredMany (n + 1) 26 [vR 21 190 0, vI x1, vI x2] [] A =
    go true 0 S SN pb_X12_hiredMany (n + 0) 4 [vR 21 190 0, vI x1, vI (w32 (x2 + 1))] [] A := rfl

set_option maxRecDepth 100000 in
theorem q_X12_has_0 (S SN : SX) (n : Nat) (x1 : Int) (A : AH)  : go true 0 S SN pb_X12_has (n + 2) 0 [vR 21 190 0, vI x1] [] A =
    if x1 = 0 then
      cI (S 194 [vR 21 190 0] A) fun r2 A1 =>
      some (some (vI r2), A1)
    else
    if x1 = 1 then
      cI (S 195 [vR 21 190 0] A) fun r4 A3 =>
      some (some (vI r4), A3)
    else
    if x1 = 2 then
      cI (S 197 [vR 21 190 0] A) fun r6 A5 =>
      some (some (vI r6), A5)
    else
    if x1 = 3 then
      some (some (vI (gi A 224 9)), A)
    else
    if x1 = 4 then
      cI (S 196 [vR 21 190 0] A) fun r8 A7 =>
      some (some (vI r8), A7)
    else
    if x1 = 5 then
      cI (S 216 [vR 21 190 0] A) fun r10 A9 =>
      some (some (vI r10), A9)
    else
    if x1 = 6 then
      some (some (vI (gi A 237 0)), A)
    else
    if x1 = 7 then
      some (some (vI (gi A 237 2)), A)
    else
    if x1 = 8 then
      some (some (vI (gi A 224 10)), A)
    else
    if x1 = 9 then
      some (some (vI (gi A 237 25)), A)
    else
    if x1 = 10 then
      some (some (vI (gi A 190 73)), A)
    else
    some (some (vI (-1)), A) := rfl
