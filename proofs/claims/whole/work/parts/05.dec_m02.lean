set_option maxRecDepth 100000 in
theorem q_X12_partyHere_0 (S SN : SX) (n : Nat)  (A : AH)  : go true 0 S SN pb_X12_partyHere (n + 3) 0 [vR 21 190 0] [] A =
    cI (S 157 [vR 21 190 0, vR 32 198 5] A) fun r2 A1 =>
    if r2 = 0 then
      cI (S 157 [vR 21 190 0, vR 32 199 5] A1) fun r4 A3 =>
      if r4 = 0 then
        cV (S 158 [vR 21 190 0, vR 32 200 6] A3) fun A5 =>
        some (some (vI 2), A5)
      else
      some (some (vI 1), A3)
    else
    some (some (vI 0), A1) := rfl

set_option maxRecDepth 100000 in
theorem q_X12_personTold_0 (S SN : SX) (n : Nat) (x1 : Int) (A : AH)  : go true 3 S SN pb_X12_personTold (n + 2) 0 [vR 21 190 0, vI x1, vU, vU, vU, vU, vU, vU, vU] [] A =
    cI (S 164 [vR 21 190 0, vI 0, vI 8, vI x1] A) fun r2 A1 =>
    if r2 = 0 then
      cL (S 166 [vR 21 190 0] A1) fun r4 A3 =>
      cV (S 158 [vR 21 190 0, vR 32 195 5] A3) fun A5 =>
      cI (S 161 [vR 21 190 0, vI 1, vI 99] A5) fun r7 A6 =>
      cV (S 158 [vR 21 190 0, vR 32 196 6] A6) fun A8 =>
      cI (S 161 [vR 21 190 0, vI 0, vI 100] A8) fun r10 A9 =>
      cV (S 158 [vR 21 190 0, vR 32 197 3] A9) fun A11 =>
      go true 3 S SN pb_X12_personTold (n + 0) 59 [vR 21 190 0, vI x1, vL r4, vS, vI r7, vI r10, vU, vU, vU] [] A11
    else
    some (none, A1) := rfl

set_option maxRecDepth 100000 in
theorem q_X12_personTold_59 (S SN : SX) (n : Nat) (x1 : Int) (y2 : Int) (x4 : Int) (x5 : Int) (u6 : AV) (u7 : AV) (u8 : AV) (A : AH)  : go true 3 S SN pb_X12_personTold (n + 1) 59 [vR 21 190 0, vI x1, vL y2, vS, vI x4, vI x5, u6, u7, u8] [] A =
    cI (S 168 [vR 21 190 0] A) fun r2 A1 =>
    cV (S 158 [vR 21 190 0, vR 32 201 2] A1) fun A3 =>
    cI (S 161 [vR 21 190 0, vI 0, vI (w32 ((gi A3 224 5) - 1))] A3) fun r5 A4 =>
    go true 3 S SN pb_X12_personTold (n + 0) 91 [vR 21 190 0, vI x1, vL y2, vS, vI x4, vI x5, vI r2, vI r5, vI 0] [] A4 := rfl

set_option maxRecDepth 100000 in
theorem q_X12_personTold_91 (S SN : SX) (n : Nat) (x1 : Int) (y2 : Int) (x4 : Int) (x5 : Int) (x6 : Int) (x7 : Int) (x8 : Int) (A : AH)  : go true 3 S SN pb_X12_personTold (n + 2) 91 [vR 21 190 0, vI x1, vL y2, vS, vI x4, vI x5, vI x6, vI x7, vI x8] [] A =
    if x8 < (gi A 224 0) then
      if (gi A 190 5) = 0 then
        if (0 : Int) ≤ w32 ((w32 (4 * x8)) + 3) ∧ w32 ((w32 (4 * x8)) + 3) < 64 then
          if (gi A 226 ((w32 ((w32 (4 * x8)) + 3)).toNat)) = x7 then
            cV (S 152 [vR 21 190 0, vI 2, vI (gi A 190 10)] A) fun A1 =>
            go true 3 S SN pb_X12_personTold (n + 1) 134 [vR 21 190 0, vI x1, vL y2, vS, vI x4, vI x5, vI x6, vI x7, vI x8] [] A1
          else
          go true 3 S SN pb_X12_personTold (n + 1) 134 [vR 21 190 0, vI x1, vL y2, vS, vI x4, vI x5, vI x6, vI x7, vI x8] [] A
        else none
      else
      go true 3 S SN pb_X12_personTold (n + 1) 134 [vR 21 190 0, vI x1, vL y2, vS, vI x4, vI x5, vI x6, vI x7, vI x8] [] A
    else
    if (gi A 190 5) = 0 then
      go true 3 S SN pb_X12_personTold (n + 0) 148 [vR 21 190 0, vI x1, vL y2, vS, vI x4, vI x5, vI x6, vI x7, vI x8] [] A
    else
    some (none, A) := rfl

set_option maxRecDepth 100000 in
theorem q_X12_personTold_134 (S SN : SX) (n : Nat) (x1 : Int) (y2 : Int) (x4 : Int) (x5 : Int) (x6 : Int) (x7 : Int) (x8 : Int) (A : AH)  : go true 3 S SN pb_X12_personTold (n + 1) 134 [vR 21 190 0, vI x1, vL y2, vS, vI x4, vI x5, vI x6, vI x7, vI x8] [] A =
    go true 3 S SN pb_X12_personTold (n + 0) 91 [vR 21 190 0, vI x1, vL y2, vS, vI x4, vI x5, vI x6, vI x7, vI (w32 (x8 + 1))] [] A := rfl

set_option maxRecDepth 100000 in
theorem q_X12_personTold_148 (S SN : SX) (n : Nat) (x1 : Int) (y2 : Int) (x4 : Int) (x5 : Int) (x6 : Int) (x7 : Int) (x8 : Int) (A : AH)  : go true 3 S SN pb_X12_personTold (n + 1) 148 [vR 21 190 0, vI x1, vL y2, vS, vI x4, vI x5, vI x6, vI x7, vI x8] [] A =
    if (0 : Int) ≤ gi A 224 0 ∧ gi A 224 0 < 48 then
      go true 3 S SN pb_X12_personTold (n + 0) 170 [vR 21 190 0, vI x1, vL y2, vS, vI x4, vI x5, vI x6, vI x7, vI (w32 (4 * (gi A 224 0)))] [] (wi A 225 ((gi A 224 0).toNat) y2)
    else none := rfl

set_option maxRecDepth 100000 in
theorem q_X12_personTold_170 (S SN : SX) (n : Nat) (x1 : Int) (y2 : Int) (x4 : Int) (x5 : Int) (x6 : Int) (x7 : Int) (x8 : Int) (A : AH)  : go true 3 S SN pb_X12_personTold (n + 1) 170 [vR 21 190 0, vI x1, vL y2, vS, vI x4, vI x5, vI x6, vI x7, vI x8] [] A =
    if (0 : Int) ≤ x8 ∧ x8 < 64 then
      if (0 : Int) ≤ w32 (x8 + 1) ∧ w32 (x8 + 1) < 64 then
        go true 3 S SN pb_X12_personTold (n + 0) 190 [vR 21 190 0, vI x1, vL y2, vS, vI x4, vI x5, vI x6, vI x7, vI x8] [] (wi (wi A 226 x8.toNat x4) 226 ((w32 (x8 + 1)).toNat) x5)
      else none
    else none := rfl

set_option maxRecDepth 100000 in
theorem q_X12_personTold_190 (S SN : SX) (n : Nat) (x1 : Int) (y2 : Int) (x4 : Int) (x5 : Int) (x6 : Int) (x7 : Int) (x8 : Int) (A : AH)  : go true 3 S SN pb_X12_personTold (n + 1) 190 [vR 21 190 0, vI x1, vL y2, vS, vI x4, vI x5, vI x6, vI x7, vI x8] [] A =
    if (0 : Int) ≤ w32 (x8 + 2) ∧ w32 (x8 + 2) < 64 then
      go true 3 S SN pb_X12_personTold (n + 0) 201 [vR 21 190 0, vI x1, vL y2, vS, vI x4, vI x5, vI x6, vI x7, vI x8] [] (wi A 226 ((w32 (x8 + 2)).toNat) x6)
    else none := rfl

set_option maxRecDepth 100000 in
theorem q_X12_personTold_201 (S SN : SX) (n : Nat) (x1 : Int) (y2 : Int) (x4 : Int) (x5 : Int) (x6 : Int) (x7 : Int) (x8 : Int) (A : AH)  : go true 3 S SN pb_X12_personTold (n + 1) 201 [vR 21 190 0, vI x1, vL y2, vS, vI x4, vI x5, vI x6, vI x7, vI x8] [] A =
    if (0 : Int) ≤ w32 (x8 + 3) ∧ w32 (x8 + 3) < 64 then
      go true 3 S SN pb_X12_personTold (n + 0) 212 [vR 21 190 0, vI x1, vL y2, vS, vI x4, vI x5, vI x6, vI x7, vI x8] [] (wi A 226 ((w32 (x8 + 3)).toNat) x7)
    else none := rfl

set_option maxRecDepth 100000 in
theorem q_X12_personTold_212 (S SN : SX) (n : Nat) (x1 : Int) (y2 : Int) (x4 : Int) (x5 : Int) (x6 : Int) (x7 : Int) (x8 : Int) (A : AH)  : go true 3 S SN pb_X12_personTold (n + 1) 212 [vR 21 190 0, vI x1, vL y2, vS, vI x4, vI x5, vI x6, vI x7, vI x8] [] A =
    go true 3 S SN pb_X12_personTold (n + 0) 222 [vR 21 190 0, vI x1, vL y2, vS, vI x4, vI x5, vI x6, vI x7, vI x8] [] (wi A 224 0 (w32 ((gi A 224 0) + 1))) := rfl

set_option maxRecDepth 100000 in
theorem q_X12_personTold_222 (S SN : SX) (n : Nat) (x1 : Int) (y2 : Int) (x4 : Int) (x5 : Int) (x6 : Int) (x7 : Int) (x8 : Int) (A : AH)  : go true 3 S SN pb_X12_personTold (n + 1) 222 [vR 21 190 0, vI x1, vL y2, vS, vI x4, vI x5, vI x6, vI x7, vI x8] [] A =
    some (none, A) := rfl

set_option maxRecDepth 100000 in
theorem q_X12_sitterHere_0 (S SN : SX) (n : Nat)  (A : AH)  : go true 0 S SN pb_X12_sitterHere (n + 1) 0 [vR 21 190 0, vU, vU, vU, vU] [] A =
    cL (S 163 [vR 21 190 0] A) fun r2 A1 =>
    cI (S 165 [vR 21 190 0, vI 0, vL r2] A1) fun r4 A3 =>
    cI (S 165 [vR 21 190 0, vI 1, vL r2] A3) fun r6 A5 =>
    if (gi A5 190 5) = 0 then
      if r4 = (-1) then
        if r6 = (-1) then
          cV (S 152 [vR 21 190 0, vI 3, vI (gi A5 190 42)] A5) fun A7 =>
          go true 0 S SN pb_X12_sitterHere (n + 0) 47 [vR 21 190 0, vL r2, vS, vI r4, vI r6] [] A7
        else
        go true 0 S SN pb_X12_sitterHere (n + 0) 47 [vR 21 190 0, vL r2, vS, vI r4, vI r6] [] A5
      else
      go true 0 S SN pb_X12_sitterHere (n + 0) 47 [vR 21 190 0, vL r2, vS, vI r4, vI r6] [] A5
    else
    go true 0 S SN pb_X12_sitterHere (n + 0) 47 [vR 21 190 0, vL r2, vS, vI r4, vI r6] [] A5 := rfl

set_option maxRecDepth 100000 in
theorem q_X12_sitterHere_47 (S SN : SX) (n : Nat) (y1 : Int) (x3 : Int) (x4 : Int) (A : AH)  : go true 0 S SN pb_X12_sitterHere (n + 4) 47 [vR 21 190 0, vL y1, vS, vI x3, vI x4] [] A =
    if (gi A 190 5) = 0 then
      if x3 = (-1) then
        some (some (vI (w32 (10 + x4))), A)
      else
      some (some (vI x3), A)
    else
    some (some (vI 0), A) := rfl

set_option maxRecDepth 100000 in
theorem q_X12_hatredTold_0 (S SN : SX) (n : Nat) (x1 : Int) (A : AH)  : go true 3 S SN pb_X12_hatredTold (n + 2) 0 [vR 21 190 0, vI x1, vU, vU] [] A =
    cI (S 164 [vR 21 190 0, vI 4, vI 12, vI x1] A) fun r2 A1 =>
    if r2 = 0 then
      cI (S 170 [vR 21 190 0] A1) fun r4 A3 =>
      cI (S 170 [vR 21 190 0] A3) fun r6 A5 =>
      if (gi A5 190 5) = 0 then
        if r4 = r6 then
          go true 3 S SN pb_X12_hatredTold (n + 0) 48 [vR 21 190 0, vI x1, vI r4, vI r6] [] A5
        else
        if (0 : Int) ≤ r4 ∧ r4 < 32 then
          if (band (bshr (gi A5 230 r4.toNat) r6) 1) = 1 then
            go true 3 S SN pb_X12_hatredTold (n + 0) 48 [vR 21 190 0, vI x1, vI r4, vI r6] [] A5
          else
          go true 3 S SN pb_X12_hatredTold (n + 0) 57 [vR 21 190 0, vI x1, vI r4, vI r6] [] A5
        else none
      else
      go true 3 S SN pb_X12_hatredTold (n + 0) 57 [vR 21 190 0, vI x1, vI r4, vI r6] [] A5
    else
    some (none, A1) := rfl

set_option maxRecDepth 100000 in
theorem q_X12_hatredTold_48 (S SN : SX) (n : Nat) (x1 : Int) (x2 : Int) (x3 : Int) (A : AH)  : go true 3 S SN pb_X12_hatredTold (n + 1) 48 [vR 21 190 0, vI x1, vI x2, vI x3] [] A =
    cV (S 152 [vR 21 190 0, vI 3, vI (gi A 190 42)] A) fun A1 =>
    go true 3 S SN pb_X12_hatredTold (n + 0) 57 [vR 21 190 0, vI x1, vI x2, vI x3] [] A1 := rfl

set_option maxRecDepth 100000 in
theorem q_X12_hatredTold_57 (S SN : SX) (n : Nat) (x1 : Int) (x2 : Int) (x3 : Int) (A : AH)  : go true 3 S SN pb_X12_hatredTold (n + 2) 57 [vR 21 190 0, vI x1, vI x2, vI x3] [] A =
    if (gi A 190 5) = 0 then
      if (0 : Int) ≤ x2 ∧ x2 < 32 then
        if (0 : Int) ≤ x2 ∧ x2 < 32 then
          go true 3 S SN pb_X12_hatredTold (n + 0) 77 [vR 21 190 0, vI x1, vI x2, vI x3] [] (wi A 230 x2.toNat (bor (gi A 230 x2.toNat) (bshl 1 x3)))
        else none
      else none
    else
    some (none, A) := rfl

set_option maxRecDepth 100000 in
theorem q_X12_hatredTold_77 (S SN : SX) (n : Nat) (x1 : Int) (x2 : Int) (x3 : Int) (A : AH)  : go true 3 S SN pb_X12_hatredTold (n + 1) 77 [vR 21 190 0, vI x1, vI x2, vI x3] [] A =
    go true 3 S SN pb_X12_hatredTold (n + 0) 87 [vR 21 190 0, vI x1, vI x2, vI x3] [] (wi A 224 4 (w32 ((gi A 224 4) + 1))) := rfl

set_option maxRecDepth 100000 in
theorem q_X12_hatredTold_87 (S SN : SX) (n : Nat) (x1 : Int) (x2 : Int) (x3 : Int) (A : AH)  : go true 3 S SN pb_X12_hatredTold (n + 1) 87 [vR 21 190 0, vI x1, vI x2, vI x3] [] A =
    some (none, A) := rfl

set_option maxRecDepth 100000 in
theorem q_X12_pointTold_0 (S SN : SX) (n : Nat) (x1 : Int) (A : AH)  : go true 3 S SN pb_X12_pointTold (n + 2) 0 [vR 21 190 0, vI x1, vU, vU, vU, vU] [] A =
    cI (S 164 [vR 21 190 0, vI 2, vI 4, vI x1] A) fun r2 A1 =>
    if r2 = 0 then
      cL (S 166 [vR 21 190 0] A1) fun r4 A3 =>
      cV (S 158 [vR 21 190 0, vR 32 198 5] A3) fun A5 =>
      cI (S 161 [vR 21 190 0, vI 0, vI 99] A5) fun r7 A6 =>
      cV (S 158 [vR 21 190 0, vR 32 199 5] A6) fun A8 =>
      cI (S 161 [vR 21 190 0, vI 0, vI 99] A8) fun r10 A9 =>
      if (gi A9 190 5) = 0 then
        go true 3 S SN pb_X12_pointTold (n + 0) 58 [vR 21 190 0, vI x1, vL r4, vS, vI r7, vI r10] [] A9
      else
      some (none, A9)
    else
    some (none, A1) := rfl

set_option maxRecDepth 100000 in
theorem q_X12_pointTold_58 (S SN : SX) (n : Nat) (x1 : Int) (y2 : Int) (x4 : Int) (x5 : Int) (A : AH)  : go true 3 S SN pb_X12_pointTold (n + 1) 58 [vR 21 190 0, vI x1, vL y2, vS, vI x4, vI x5] [] A =
    if (0 : Int) ≤ w32 (16 + (gi A 224 2)) ∧ w32 (16 + (gi A 224 2)) < 48 then
      go true 3 S SN pb_X12_pointTold (n + 0) 73 [vR 21 190 0, vI x1, vL y2, vS, vI x4, vI x5] [] (wi A 225 ((w32 (16 + (gi A 224 2))).toNat) y2)
    else none := rfl

set_option maxRecDepth 100000 in
theorem q_X12_pointTold_73 (S SN : SX) (n : Nat) (x1 : Int) (y2 : Int) (x4 : Int) (x5 : Int) (A : AH)  : go true 3 S SN pb_X12_pointTold (n + 1) 73 [vR 21 190 0, vI x1, vL y2, vS, vI x4, vI x5] [] A =
    if (0 : Int) ≤ w32 (2 * (gi A 224 2)) ∧ w32 (2 * (gi A 224 2)) < 16 then
      go true 3 S SN pb_X12_pointTold (n + 0) 88 [vR 21 190 0, vI x1, vL y2, vS, vI x4, vI x5] [] (wi A 228 ((w32 (2 * (gi A 224 2))).toNat) x4)
    else none := rfl

set_option maxRecDepth 100000 in
theorem q_X12_pointTold_88 (S SN : SX) (n : Nat) (x1 : Int) (y2 : Int) (x4 : Int) (x5 : Int) (A : AH)  : go true 3 S SN pb_X12_pointTold (n + 1) 88 [vR 21 190 0, vI x1, vL y2, vS, vI x4, vI x5] [] A =
    if (0 : Int) ≤ w32 ((w32 (2 * (gi A 224 2))) + 1) ∧ w32 ((w32 (2 * (gi A 224 2))) + 1) < 16 then
      go true 3 S SN pb_X12_pointTold (n + 0) 105 [vR 21 190 0, vI x1, vL y2, vS, vI x4, vI x5] [] (wi A 228 ((w32 ((w32 (2 * (gi A 224 2))) + 1)).toNat) x5)
    else none := rfl

set_option maxRecDepth 100000 in
theorem q_X12_pointTold_105 (S SN : SX) (n : Nat) (x1 : Int) (y2 : Int) (x4 : Int) (x5 : Int) (A : AH)  : go true 3 S SN pb_X12_pointTold (n + 1) 105 [vR 21 190 0, vI x1, vL y2, vS, vI x4, vI x5] [] A =
    go true 3 S SN pb_X12_pointTold (n + 0) 115 [vR 21 190 0, vI x1, vL y2, vS, vI x4, vI x5] [] (wi A 224 2 (w32 ((gi A 224 2) + 1))) := rfl

set_option maxRecDepth 100000 in
theorem q_X12_pointTold_115 (S SN : SX) (n : Nat) (x1 : Int) (y2 : Int) (x4 : Int) (x5 : Int) (A : AH)  : go true 3 S SN pb_X12_pointTold (n + 1) 115 [vR 21 190 0, vI x1, vL y2, vS, vI x4, vI x5] [] A =
    some (none, A) := rfl

set_option maxRecDepth 100000 in
theorem q_X12_noiseTold_0 (S SN : SX) (n : Nat) (x1 : Int) (A : AH)  : go true 3 S SN pb_X12_noiseTold (n + 2) 0 [vR 21 190 0, vI x1, vU, vU, vU, vU] [] A =
    cI (S 164 [vR 21 190 0, vI 3, vI 6, vI x1] A) fun r2 A1 =>
    if r2 = 0 then
      cV (S 158 [vR 21 190 0, vR 32 201 2] A1) fun A3 =>
      cI (S 161 [vR 21 190 0, vI 0, vI 99] A3) fun r5 A4 =>
      cV (S 158 [vR 21 190 0, vR 32 205 4] A4) fun A6 =>
      cI (S 161 [vR 21 190 0, vI 0, vI (w32 ((gi A6 224 5) - 1))] A6) fun r8 A7 =>
      go true 3 S SN pb_X12_noiseTold (n + 0) 50 [vR 21 190 0, vI x1, vI r5, vI r8, vU, vU] [] A7
    else
    some (none, A1) := rfl

set_option maxRecDepth 100000 in
theorem q_X12_noiseTold_50 (S SN : SX) (n : Nat) (x1 : Int) (x2 : Int) (x3 : Int) (u4 : AV) (u5 : AV) (A : AH)  : go true 3 S SN pb_X12_noiseTold (n + 2) 50 [vR 21 190 0, vI x1, vI x2, vI x3, u4, u5] [] A =
    cV (S 158 [vR 21 190 0, vR 32 206 4] A) fun A1 =>
    cI (S 161 [vR 21 190 0, vI 1, vI 9] A1) fun r3 A2 =>
    if (gi A2 190 5) = 0 then
      if (0 : Int) ≤ w32 (3 * (gi A2 224 3)) ∧ w32 (3 * (gi A2 224 3)) < 36 then
        go true 3 S SN pb_X12_noiseTold (n + 0) 93 [vR 21 190 0, vI x1, vI x2, vI x3, vI r3, vI (w32 (3 * (gi A2 224 3)))] [] (wi A2 229 ((w32 (3 * (gi A2 224 3))).toNat) x2)
      else none
    else
    some (none, A2) := rfl

set_option maxRecDepth 100000 in
theorem q_X12_noiseTold_93 (S SN : SX) (n : Nat) (x1 : Int) (x2 : Int) (x3 : Int) (x4 : Int) (x5 : Int) (A : AH)  : go true 3 S SN pb_X12_noiseTold (n + 1) 93 [vR 21 190 0, vI x1, vI x2, vI x3, vI x4, vI x5] [] A =
    if (0 : Int) ≤ w32 (x5 + 1) ∧ w32 (x5 + 1) < 36 then
      go true 3 S SN pb_X12_noiseTold (n + 0) 103 [vR 21 190 0, vI x1, vI x2, vI x3, vI x4, vI x5] [] (wi A 229 ((w32 (x5 + 1)).toNat) x3)
    else none := rfl

set_option maxRecDepth 100000 in
theorem q_X12_noiseTold_103 (S SN : SX) (n : Nat) (x1 : Int) (x2 : Int) (x3 : Int) (x4 : Int) (x5 : Int) (A : AH)  : go true 3 S SN pb_X12_noiseTold (n + 1) 103 [vR 21 190 0, vI x1, vI x2, vI x3, vI x4, vI x5] [] A =
    if (0 : Int) ≤ w32 (x5 + 2) ∧ w32 (x5 + 2) < 36 then
      go true 3 S SN pb_X12_noiseTold (n + 0) 114 [vR 21 190 0, vI x1, vI x2, vI x3, vI x4, vI x5] [] (wi A 229 ((w32 (x5 + 2)).toNat) x4)
    else none := rfl

set_option maxRecDepth 100000 in
theorem q_X12_noiseTold_114 (S SN : SX) (n : Nat) (x1 : Int) (x2 : Int) (x3 : Int) (x4 : Int) (x5 : Int) (A : AH)  : go true 3 S SN pb_X12_noiseTold (n + 1) 114 [vR 21 190 0, vI x1, vI x2, vI x3, vI x4, vI x5] [] A =
    go true 3 S SN pb_X12_noiseTold (n + 0) 124 [vR 21 190 0, vI x1, vI x2, vI x3, vI x4, vI x5] [] (wi A 224 3 (w32 ((gi A 224 3) + 1))) := rfl

set_option maxRecDepth 100000 in
theorem q_X12_noiseTold_124 (S SN : SX) (n : Nat) (x1 : Int) (x2 : Int) (x3 : Int) (x4 : Int) (x5 : Int) (A : AH)  : go true 3 S SN pb_X12_noiseTold (n + 1) 124 [vR 21 190 0, vI x1, vI x2, vI x3, vI x4, vI x5] [] A =
    some (none, A) := rfl

set_option maxRecDepth 100000 in
theorem q_X12_muteTold_0 (S SN : SX) (n : Nat) (x1 : Int) (A : AH)  : go true 3 S SN pb_X12_muteTold (n + 2) 0 [vR 21 190 0, vI x1, vU, vU, vU, vU] [] A =
    cI (S 164 [vR 21 190 0, vI 1, vI 6, vI x1] A) fun r2 A1 =>
    if r2 = 0 then
      cL (S 166 [vR 21 190 0] A1) fun r4 A3 =>
      cV (S 158 [vR 21 190 0, vR 32 195 5] A3) fun A5 =>
      cI (S 161 [vR 21 190 0, vI 1, vI 99] A5) fun r7 A6 =>
      cV (S 158 [vR 21 190 0, vR 32 208 5] A6) fun A8 =>
      cI (S 161 [vR 21 190 0, vI 0, vI 99] A8) fun r10 A9 =>
      if (gi A9 190 5) = 0 then
        go true 3 S SN pb_X12_muteTold (n + 0) 59 [vR 21 190 0, vI x1, vL r4, vS, vI r7, vI r10] [] A9
      else
      some (none, A9)
    else
    some (none, A1) := rfl

set_option maxRecDepth 100000 in
theorem q_X12_muteTold_59 (S SN : SX) (n : Nat) (x1 : Int) (y2 : Int) (x4 : Int) (x5 : Int) (A : AH)  : go true 3 S SN pb_X12_muteTold (n + 1) 59 [vR 21 190 0, vI x1, vL y2, vS, vI x4, vI x5] [] A =
    if (0 : Int) ≤ w32 (8 + (gi A 224 1)) ∧ w32 (8 + (gi A 224 1)) < 48 then
      go true 3 S SN pb_X12_muteTold (n + 0) 74 [vR 21 190 0, vI x1, vL y2, vS, vI x4, vI x5] [] (wi A 225 ((w32 (8 + (gi A 224 1))).toNat) y2)
    else none := rfl

set_option maxRecDepth 100000 in
theorem q_X12_muteTold_74 (S SN : SX) (n : Nat) (x1 : Int) (y2 : Int) (x4 : Int) (x5 : Int) (A : AH)  : go true 3 S SN pb_X12_muteTold (n + 1) 74 [vR 21 190 0, vI x1, vL y2, vS, vI x4, vI x5] [] A =
    if (0 : Int) ≤ w32 (2 * (gi A 224 1)) ∧ w32 (2 * (gi A 224 1)) < 24 then
      go true 3 S SN pb_X12_muteTold (n + 0) 89 [vR 21 190 0, vI x1, vL y2, vS, vI x4, vI x5] [] (wi A 227 ((w32 (2 * (gi A 224 1))).toNat) x4)
    else none := rfl

set_option maxRecDepth 100000 in
theorem q_X12_muteTold_89 (S SN : SX) (n : Nat) (x1 : Int) (y2 : Int) (x4 : Int) (x5 : Int) (A : AH)  : go true 3 S SN pb_X12_muteTold (n + 1) 89 [vR 21 190 0, vI x1, vL y2, vS, vI x4, vI x5] [] A =
    if (0 : Int) ≤ w32 ((w32 (2 * (gi A 224 1))) + 1) ∧ w32 ((w32 (2 * (gi A 224 1))) + 1) < 24 then
      go true 3 S SN pb_X12_muteTold (n + 0) 106 [vR 21 190 0, vI x1, vL y2, vS, vI x4, vI x5] [] (wi A 227 ((w32 ((w32 (2 * (gi A 224 1))) + 1)).toNat) x5)
    else none := rfl

set_option maxRecDepth 100000 in
theorem q_X12_muteTold_106 (S SN : SX) (n : Nat) (x1 : Int) (y2 : Int) (x4 : Int) (x5 : Int) (A : AH)  : go true 3 S SN pb_X12_muteTold (n + 1) 106 [vR 21 190 0, vI x1, vL y2, vS, vI x4, vI x5] [] A =
    go true 3 S SN pb_X12_muteTold (n + 0) 116 [vR 21 190 0, vI x1, vL y2, vS, vI x4, vI x5] [] (wi A 224 1 (w32 ((gi A 224 1) + 1))) := rfl

set_option maxRecDepth 100000 in
theorem q_X12_muteTold_116 (S SN : SX) (n : Nat) (x1 : Int) (y2 : Int) (x4 : Int) (x5 : Int) (A : AH)  : go true 3 S SN pb_X12_muteTold (n + 1) 116 [vR 21 190 0, vI x1, vL y2, vS, vI x4, vI x5] [] A =
    some (none, A) := rfl

set_option maxRecDepth 100000 in
theorem q_X12_sumIsTold_0 (S SN : SX) (n : Nat) (x1 : Int) (x2 : Int) (A : AH)  : go true 3 S SN pb_X12_sumIsTold (n + 1) 0 [vR 21 190 0, vI x1, vI x2] [] A =
    if (gi A 190 5) = 0 then
      if (0 : Int) ≤ x1 ∧ x1 < 4 then
        if (gi A 231 x1.toNat) = (-1) then
          go true 3 S SN pb_X12_sumIsTold (n + 0) 23 [vR 21 190 0, vI x1, vI x2] [] A
        else
        cV (S 152 [vR 21 190 0, vI 5, vI x2] A) fun A1 =>
        go true 3 S SN pb_X12_sumIsTold (n + 0) 23 [vR 21 190 0, vI x1, vI x2] [] A1
      else none
    else
    go true 3 S SN pb_X12_sumIsTold (n + 0) 23 [vR 21 190 0, vI x1, vI x2] [] A := rfl

set_option maxRecDepth 100000 in
theorem q_X12_sumIsTold_23 (S SN : SX) (n : Nat) (x1 : Int) (x2 : Int) (A : AH)  : go true 3 S SN pb_X12_sumIsTold (n + 2) 23 [vR 21 190 0, vI x1, vI x2] [] A =
    if (gi A 190 5) = 0 then
      if (0 : Int) ≤ x1 ∧ x1 < 4 then
        go true 3 S SN pb_X12_sumIsTold (n + 0) 41 [vR 21 190 0, vI x1, vI x2] [] (wi A 231 x1.toNat (gi A 190 55))
      else none
    else
    some (none, A) := rfl

set_option maxRecDepth 100000 in
theorem q_X12_sumIsTold_41 (S SN : SX) (n : Nat) (x1 : Int) (x2 : Int) (A : AH)  : go true 3 S SN pb_X12_sumIsTold (n + 1) 41 [vR 21 190 0, vI x1, vI x2] [] A =
    go true 3 S SN pb_X12_sumIsTold (n + 0) 51 [vR 21 190 0, vI x1, vI x2] [] (wi (wi A 190 57 0) 190 58 0) := rfl

set_option maxRecDepth 100000 in
theorem q_X12_sumIsTold_51 (S SN : SX) (n : Nat) (x1 : Int) (x2 : Int) (A : AH)  : go true 3 S SN pb_X12_sumIsTold (n + 1) 51 [vR 21 190 0, vI x1, vI x2] [] A =
    cV (S 188 [vR 21 190 0] (wi A 190 59 0)) fun A1 =>
    if (0 : Int) ≤ x1 ∧ x1 < 4 then
      go true 3 S SN pb_X12_sumIsTold (n + 0) 70 [vR 21 190 0, vI x1, vI x2] [] (wi A1 232 x1.toNat (gi A1 190 55))
    else none := rfl

set_option maxRecDepth 100000 in
theorem q_X12_sumIsTold_70 (S SN : SX) (n : Nat) (x1 : Int) (x2 : Int) (A : AH)  : go true 3 S SN pb_X12_sumIsTold (n + 1) 70 [vR 21 190 0, vI x1, vI x2] [] A =
    some (none, A) := rfl

set_option maxRecDepth 100000 in
theorem q_X12_statementTold_0 (S SN : SX) (n : Nat)  (A : AH)  : go true 3 S SN pb_X12_statementTold (n + 4) 0 [vR 21 190 0, vU] [] A =
    if (gi A 190 52) = 60 then
      cV (S 152 [vR 21 190 0, vI 5, vI (gi A 190 2)] A) fun A1 =>
      some (none, A1)
    else
    cI (S 157 [vR 21 190 0, vR 32 194 6] A) fun r3 A2 =>
    if r3 = 0 then
      cI (S 157 [vR 21 190 0, vR 32 202 5] A2) fun r6 A5 =>
      if r6 = 0 then
        cI (S 157 [vR 21 190 0, vR 32 203 5] A5) fun r9 A8 =>
        if r9 = 0 then
          go true 3 S SN pb_X12_statementTold (n + 0) 78 [vR 21 190 0, vI (gi A 190 2)] [] A8
        else
        cV (S 172 [vR 21 190 0, vI (gi A 190 2)] A8) fun A10 =>
        go true 3 S SN pb_X12_statementTold (n + 0) 150 [vR 21 190 0, vI (gi A 190 2)] [] A10
      else
      cV (S 171 [vR 21 190 0, vI (gi A 190 2)] A5) fun A7 =>
      go true 3 S SN pb_X12_statementTold (n + 1) 150 [vR 21 190 0, vI (gi A 190 2)] [] A7
    else
    cV (S 169 [vR 21 190 0, vI (gi A 190 2)] A2) fun A4 =>
    go true 3 S SN pb_X12_statementTold (n + 2) 150 [vR 21 190 0, vI (gi A 190 2)] [] A4 := rfl

set_option maxRecDepth 100000 in
theorem q_X12_statementTold_78 (S SN : SX) (n : Nat) (x1 : Int) (A : AH)  : go true 3 S SN pb_X12_statementTold (n + 4) 78 [vR 21 190 0, vI x1] [] A =
    cI (S 157 [vR 21 190 0, vR 32 204 5] A) fun r2 A1 =>
    if r2 = 0 then
      cI (S 157 [vR 21 190 0, vR 32 207 4] A1) fun r5 A4 =>
      if r5 = 0 then
        cI (S 157 [vR 21 190 0, vR 32 209 5] A4) fun r8 A7 =>
        if r8 = 0 then
          cV (S 158 [vR 21 190 0, vR 32 210 5] A7) fun A10 =>
          cV (S 175 [vR 21 190 0, vI 1, vI x1] A10) fun A11 =>
          go true 3 S SN pb_X12_statementTold (n + 0) 150 [vR 21 190 0, vI x1] [] A11
        else
        cV (S 175 [vR 21 190 0, vI 0, vI x1] A7) fun A9 =>
        go true 3 S SN pb_X12_statementTold (n + 1) 150 [vR 21 190 0, vI x1] [] A9
      else
      cV (S 174 [vR 21 190 0, vI x1] A4) fun A6 =>
      go true 3 S SN pb_X12_statementTold (n + 2) 150 [vR 21 190 0, vI x1] [] A6
    else
    cV (S 173 [vR 21 190 0, vI x1] A1) fun A3 =>
    go true 3 S SN pb_X12_statementTold (n + 3) 150 [vR 21 190 0, vI x1] [] A3 := rfl

set_option maxRecDepth 100000 in
theorem q_X12_statementTold_150 (S SN : SX) (n : Nat) (x1 : Int) (A : AH)  : go true 3 S SN pb_X12_statementTold (n + 1) 150 [vR 21 190 0, vI x1] [] A =
    cV (S 160 [vR 21 190 0, vI 59] A) fun A1 =>
    go true 3 S SN pb_X12_statementTold (n + 0) 166 [vR 21 190 0, vI x1] [] (wi A1 190 52 (w32 ((gi A1 190 52) + 1))) := rfl

set_option maxRecDepth 100000 in
theorem q_X12_statementTold_166 (S SN : SX) (n : Nat) (x1 : Int) (A : AH)  : go true 3 S SN pb_X12_statementTold (n + 1) 166 [vR 21 190 0, vI x1] [] A =
    some (none, A) := rfl

set_option maxRecDepth 100000 in
theorem q_X12_hall_0 (S SN : SX) (n : Nat)  (A : AH)  : go true 0 S SN pb_X12_hall (n + 1) 0 [vR 21 190 0, vU] [] A =
    go true 0 S SN pb_X12_hall (n + 0) 13 [vR 21 190 0, vU] [] (wi (wi A 190 3 (gi A 190 1)) 190 1 0) := rfl

set_option maxRecDepth 100000 in
theorem q_X12_hall_13 (S SN : SX) (n : Nat) (u1 : AV) (A : AH)  : go true 0 S SN pb_X12_hall (n + 1) 13 [vR 21 190 0, u1] [] A =
    go true 0 S SN pb_X12_hall (n + 0) 23 [vR 21 190 0, u1] [] (wi (wi A 190 2 0) 190 4 (-1)) := rfl

set_option maxRecDepth 100000 in
theorem q_X12_hall_23 (S SN : SX) (n : Nat) (u1 : AV) (A : AH)  : go true 0 S SN pb_X12_hall (n + 1) 23 [vR 21 190 0, u1] [] A =
    go true 0 S SN pb_X12_hall (n + 0) 33 [vR 21 190 0, u1] [] (wi (wi A 190 5 0) 190 6 (-1)) := rfl

set_option maxRecDepth 100000 in
theorem q_X12_hall_33 (S SN : SX) (n : Nat) (u1 : AV) (A : AH)  : go true 0 S SN pb_X12_hall (n + 1) 33 [vR 21 190 0, u1] [] A =
    go true 0 S SN pb_X12_hall (n + 0) 40 [vR 21 190 0, vI 0] [] (wi A 190 55 0) := rfl

set_option maxRecDepth 100000 in
theorem q_X12_hall_40 (S SN : SX) (n : Nat) (x1 : Int) (A : AH)  : go true 0 S SN pb_X12_hall (n + 2) 40 [vR 21 190 0, vI x1] [] A =
    if x1 < 6 then
      if (0 : Int) ≤ x1 ∧ x1 < 12 then
        go true 0 S SN pb_X12_hall (n + 1) 53 [vR 21 190 0, vI x1] [] (wi A 224 x1.toNat 0)
      else none
    else
    go true 0 S SN pb_X12_hall (n + 0) 61 [vR 21 190 0, vI 0] [] A := rfl

set_option maxRecDepth 100000 in
theorem q_X12_hall_53 (S SN : SX) (n : Nat) (x1 : Int) (A : AH)  : go true 0 S SN pb_X12_hall (n + 1) 53 [vR 21 190 0, vI x1] [] A =
    go true 0 S SN pb_X12_hall (n + 0) 40 [vR 21 190 0, vI (w32 (x1 + 1))] [] A := rfl

set_option maxRecDepth 100000 in
theorem q_X12_hall_61 (S SN : SX) (n : Nat) (x1 : Int) (A : AH)  : go true 0 S SN pb_X12_hall (n + 2) 61 [vR 21 190 0, vI x1] [] A =
    if x1 < 16 then
      if (0 : Int) ≤ x1 ∧ x1 < 32 then
        go true 0 S SN pb_X12_hall (n + 1) 74 [vR 21 190 0, vI x1] [] (wi A 230 x1.toNat 0)
      else none
    else
    go true 0 S SN pb_X12_hall (n + 0) 94 [vR 21 190 0, vI x1] [] (wi (wi A 231 0 (-1)) 231 1 (-1)) := rfl

set_option maxRecDepth 100000 in
theorem q_X12_hall_74 (S SN : SX) (n : Nat) (x1 : Int) (A : AH)  : go true 0 S SN pb_X12_hall (n + 1) 74 [vR 21 190 0, vI x1] [] A =
    go true 0 S SN pb_X12_hall (n + 0) 61 [vR 21 190 0, vI (w32 (x1 + 1))] [] A := rfl

set_option maxRecDepth 100000 in
theorem q_X12_hall_94 (S SN : SX) (n : Nat) (x1 : Int) (A : AH)  : go true 0 S SN pb_X12_hall (n + 1) 94 [vR 21 190 0, vI x1] [] A =
    cV (S 167 [vR 21 190 0] A) fun A1 =>
    go true 0 S SN pb_X12_hall (n + 0) 103 [vR 21 190 0, vI x1] [] (wi A1 190 52 1) := rfl

set_option maxRecDepth 100000 in
theorem q_X12_hall_103 (S SN : SX) (n : Nat) (x1 : Int) (A : AH)  : go true 0 S SN pb_X12_hall (n + 1) 103 [vR 21 190 0, vI x1] [] A =
    if (gi A 190 5) = 0 then
      cI (S 155 [vR 21 190 0] A) fun r2 A1 =>
      if r2 = (-1) then
        go true 0 S SN pb_X12_hall (n + 0) 125 [vR 21 190 0, vI x1] [] A1
      else
      cV (S 176 [vR 21 190 0] A1) fun A3 =>
      go true 0 S SN pb_X12_hall (n + 0) 103 [vR 21 190 0, vI x1] [] A3
    else
    go true 0 S SN pb_X12_hall (n + 0) 125 [vR 21 190 0, vI x1] [] A := rfl

set_option maxRecDepth 100000 in
theorem q_X12_hall_125 (S SN : SX) (n : Nat) (x1 : Int) (A : AH)  : go true 0 S SN pb_X12_hall (n + 1) 125 [vR 21 190 0, vI x1] [] A =
    go true 0 S SN pb_X12_hall (n + 0) 141 [vR 21 190 0, vI x1] [] (wi (wi A 190 7 (gi A 190 5)) 190 8 (gi (wi A 190 7 (gi A 190 5)) 190 6)) := rfl

set_option maxRecDepth 100000 in
theorem q_X12_hall_141 (S SN : SX) (n : Nat) (x1 : Int) (A : AH)  : go true 0 S SN pb_X12_hall (n + 2) 141 [vR 21 190 0, vI x1] [] A =
    if (gi A 190 5) = 0 then
      cV (S 178 [vR 21 190 0] A) fun A1 =>
      some (some (vI (gi A1 190 52)), A1)
    else
    go true 0 S SN pb_X12_hall (n + 1) 158 [vR 21 190 0, vI x1] [] (wi A 192 1 (w32 ((gi A 192 1) + 1))) := rfl

set_option maxRecDepth 100000 in
theorem q_X12_hall_158 (S SN : SX) (n : Nat) (x1 : Int) (A : AH)  : go true 0 S SN pb_X12_hall (n + 1) 158 [vR 21 190 0, vI x1] [] A =
    some (some (vI (-1)), A) := rfl
