set_option maxRecDepth 100000 in
theorem q_X12_stands_0 (S SN : SX) (n : Nat)  (A : AH)  : go true 3 S SN pb_X12_stands (n + 1) 0 [vR 21 190 0, vU] [] A =
    go true 3 S SN pb_X12_stands (n + 0) 7 [vR 21 190 0, vI 0] [] (wi A 190 53 1) := rfl

set_option maxRecDepth 100000 in
theorem q_X12_stands_7 (S SN : SX) (n : Nat) (x1 : Int) (A : AH)  : go true 3 S SN pb_X12_stands (n + 2) 7 [vR 21 190 0, vI x1] [] A =
    if x1 < 6 then
      if (0 : Int) ≤ x1 ∧ x1 < 12 then
        if (0 : Int) ≤ w32 (6 + x1) ∧ w32 (6 + x1) < 12 then
          go true 3 S SN pb_X12_stands (n + 1) 28 [vR 21 190 0, vI x1] [] (wi A 224 ((w32 (6 + x1)).toNat) (gi A 224 x1.toNat))
        else none
      else none
    else
    go true 3 S SN pb_X12_stands (n + 0) 36 [vR 21 190 0, vI 0] [] A := rfl

set_option maxRecDepth 100000 in
theorem q_X12_stands_28 (S SN : SX) (n : Nat) (x1 : Int) (A : AH)  : go true 3 S SN pb_X12_stands (n + 1) 28 [vR 21 190 0, vI x1] [] A =
    go true 3 S SN pb_X12_stands (n + 0) 7 [vR 21 190 0, vI (w32 (x1 + 1))] [] A := rfl

set_option maxRecDepth 100000 in
theorem q_X12_stands_36 (S SN : SX) (n : Nat) (x1 : Int) (A : AH)  : go true 3 S SN pb_X12_stands (n + 2) 36 [vR 21 190 0, vI x1] [] A =
    if x1 < 24 then
      if (0 : Int) ≤ x1 ∧ x1 < 48 then
        if (0 : Int) ≤ w32 (24 + x1) ∧ w32 (24 + x1) < 48 then
          go true 3 S SN pb_X12_stands (n + 1) 57 [vR 21 190 0, vI x1] [] (wi A 225 ((w32 (24 + x1)).toNat) (gi A 225 x1.toNat))
        else none
      else none
    else
    go true 3 S SN pb_X12_stands (n + 0) 65 [vR 21 190 0, vI 0] [] A := rfl

set_option maxRecDepth 100000 in
theorem q_X12_stands_57 (S SN : SX) (n : Nat) (x1 : Int) (A : AH)  : go true 3 S SN pb_X12_stands (n + 1) 57 [vR 21 190 0, vI x1] [] A =
    go true 3 S SN pb_X12_stands (n + 0) 36 [vR 21 190 0, vI (w32 (x1 + 1))] [] A := rfl

set_option maxRecDepth 100000 in
theorem q_X12_stands_65 (S SN : SX) (n : Nat) (x1 : Int) (A : AH)  : go true 3 S SN pb_X12_stands (n + 2) 65 [vR 21 190 0, vI x1] [] A =
    if x1 < 32 then
      if (0 : Int) ≤ x1 ∧ x1 < 64 then
        if (0 : Int) ≤ w32 (32 + x1) ∧ w32 (32 + x1) < 64 then
          go true 3 S SN pb_X12_stands (n + 1) 86 [vR 21 190 0, vI x1] [] (wi A 226 ((w32 (32 + x1)).toNat) (gi A 226 x1.toNat))
        else none
      else none
    else
    go true 3 S SN pb_X12_stands (n + 0) 94 [vR 21 190 0, vI 0] [] A := rfl

set_option maxRecDepth 100000 in
theorem q_X12_stands_86 (S SN : SX) (n : Nat) (x1 : Int) (A : AH)  : go true 3 S SN pb_X12_stands (n + 1) 86 [vR 21 190 0, vI x1] [] A =
    go true 3 S SN pb_X12_stands (n + 0) 65 [vR 21 190 0, vI (w32 (x1 + 1))] [] A := rfl

set_option maxRecDepth 100000 in
theorem q_X12_stands_94 (S SN : SX) (n : Nat) (x1 : Int) (A : AH)  : go true 3 S SN pb_X12_stands (n + 2) 94 [vR 21 190 0, vI x1] [] A =
    if x1 < 12 then
      if (0 : Int) ≤ x1 ∧ x1 < 24 then
        if (0 : Int) ≤ w32 (12 + x1) ∧ w32 (12 + x1) < 24 then
          go true 3 S SN pb_X12_stands (n + 1) 115 [vR 21 190 0, vI x1] [] (wi A 227 ((w32 (12 + x1)).toNat) (gi A 227 x1.toNat))
        else none
      else none
    else
    go true 3 S SN pb_X12_stands (n + 0) 123 [vR 21 190 0, vI 0] [] A := rfl

set_option maxRecDepth 100000 in
theorem q_X12_stands_115 (S SN : SX) (n : Nat) (x1 : Int) (A : AH)  : go true 3 S SN pb_X12_stands (n + 1) 115 [vR 21 190 0, vI x1] [] A =
    go true 3 S SN pb_X12_stands (n + 0) 94 [vR 21 190 0, vI (w32 (x1 + 1))] [] A := rfl

set_option maxRecDepth 100000 in
theorem q_X12_stands_123 (S SN : SX) (n : Nat) (x1 : Int) (A : AH)  : go true 3 S SN pb_X12_stands (n + 2) 123 [vR 21 190 0, vI x1] [] A =
    if x1 < 8 then
      if (0 : Int) ≤ x1 ∧ x1 < 16 then
        if (0 : Int) ≤ w32 (8 + x1) ∧ w32 (8 + x1) < 16 then
          go true 3 S SN pb_X12_stands (n + 1) 144 [vR 21 190 0, vI x1] [] (wi A 228 ((w32 (8 + x1)).toNat) (gi A 228 x1.toNat))
        else none
      else none
    else
    go true 3 S SN pb_X12_stands (n + 0) 152 [vR 21 190 0, vI 0] [] A := rfl

set_option maxRecDepth 100000 in
theorem q_X12_stands_144 (S SN : SX) (n : Nat) (x1 : Int) (A : AH)  : go true 3 S SN pb_X12_stands (n + 1) 144 [vR 21 190 0, vI x1] [] A =
    go true 3 S SN pb_X12_stands (n + 0) 123 [vR 21 190 0, vI (w32 (x1 + 1))] [] A := rfl

set_option maxRecDepth 100000 in
theorem q_X12_stands_152 (S SN : SX) (n : Nat) (x1 : Int) (A : AH)  : go true 3 S SN pb_X12_stands (n + 2) 152 [vR 21 190 0, vI x1] [] A =
    if x1 < 18 then
      if (0 : Int) ≤ x1 ∧ x1 < 36 then
        if (0 : Int) ≤ w32 (18 + x1) ∧ w32 (18 + x1) < 36 then
          go true 3 S SN pb_X12_stands (n + 1) 173 [vR 21 190 0, vI x1] [] (wi A 229 ((w32 (18 + x1)).toNat) (gi A 229 x1.toNat))
        else none
      else none
    else
    go true 3 S SN pb_X12_stands (n + 0) 181 [vR 21 190 0, vI 0] [] A := rfl

set_option maxRecDepth 100000 in
theorem q_X12_stands_173 (S SN : SX) (n : Nat) (x1 : Int) (A : AH)  : go true 3 S SN pb_X12_stands (n + 1) 173 [vR 21 190 0, vI x1] [] A =
    go true 3 S SN pb_X12_stands (n + 0) 152 [vR 21 190 0, vI (w32 (x1 + 1))] [] A := rfl

set_option maxRecDepth 100000 in
theorem q_X12_stands_181 (S SN : SX) (n : Nat) (x1 : Int) (A : AH)  : go true 3 S SN pb_X12_stands (n + 2) 181 [vR 21 190 0, vI x1] [] A =
    if x1 < 16 then
      if (0 : Int) ≤ x1 ∧ x1 < 32 then
        if (0 : Int) ≤ w32 (16 + x1) ∧ w32 (16 + x1) < 32 then
          go true 3 S SN pb_X12_stands (n + 1) 202 [vR 21 190 0, vI x1] [] (wi A 230 ((w32 (16 + x1)).toNat) (gi A 230 x1.toNat))
        else none
      else none
    else
    go true 3 S SN pb_X12_stands (n + 0) 210 [vR 21 190 0, vI 0] [] A := rfl

set_option maxRecDepth 100000 in
theorem q_X12_stands_202 (S SN : SX) (n : Nat) (x1 : Int) (A : AH)  : go true 3 S SN pb_X12_stands (n + 1) 202 [vR 21 190 0, vI x1] [] A =
    go true 3 S SN pb_X12_stands (n + 0) 181 [vR 21 190 0, vI (w32 (x1 + 1))] [] A := rfl

set_option maxRecDepth 100000 in
theorem q_X12_stands_210 (S SN : SX) (n : Nat) (x1 : Int) (A : AH)  : go true 3 S SN pb_X12_stands (n + 2) 210 [vR 21 190 0, vI x1] [] A =
    if x1 < 2 then
      if (0 : Int) ≤ x1 ∧ x1 < 4 then
        if (0 : Int) ≤ w32 (2 + x1) ∧ w32 (2 + x1) < 4 then
          go true 3 S SN pb_X12_stands (n + 1) 229 [vR 21 190 0, vI x1] [] (wi A 231 ((w32 (2 + x1)).toNat) (gi A 231 x1.toNat))
        else none
      else none
    else
    go true 3 S SN pb_X12_stands (n + 0) 251 [vR 21 190 0, vI 0] [] A := rfl

set_option maxRecDepth 100000 in
theorem q_X12_stands_229 (S SN : SX) (n : Nat) (x1 : Int) (A : AH)  : go true 3 S SN pb_X12_stands (n + 1) 229 [vR 21 190 0, vI x1] [] A =
    if (0 : Int) ≤ x1 ∧ x1 < 4 then
      if (0 : Int) ≤ w32 (2 + x1) ∧ w32 (2 + x1) < 4 then
        go true 3 S SN pb_X12_stands (n + 0) 243 [vR 21 190 0, vI x1] [] (wi A 232 ((w32 (2 + x1)).toNat) (gi A 232 x1.toNat))
      else none
    else none := rfl

set_option maxRecDepth 100000 in
theorem q_X12_stands_243 (S SN : SX) (n : Nat) (x1 : Int) (A : AH)  : go true 3 S SN pb_X12_stands (n + 1) 243 [vR 21 190 0, vI x1] [] A =
    go true 3 S SN pb_X12_stands (n + 0) 210 [vR 21 190 0, vI (w32 (x1 + 1))] [] A := rfl

set_option maxRecDepth 100000 in
theorem q_X12_stands_251 (S SN : SX) (n : Nat) (x1 : Int) (A : AH)  : go true 3 S SN pb_X12_stands (n + 2) 251 [vR 21 190 0, vI x1] [] A =
    if x1 < (gi A 190 55) then
      if (0 : Int) ≤ x1 ∧ x1 < 3200 then
        if (0 : Int) ≤ w32 (1600 + x1) ∧ w32 (1600 + x1) < 3200 then
          go true 3 S SN pb_X12_stands (n + 1) 275 [vR 21 190 0, vI x1] [] (wi A 233 ((w32 (1600 + x1)).toNat) (gi A 233 x1.toNat))
        else none
      else none
    else
    go true 3 S SN pb_X12_stands (n + 0) 283 [vR 21 190 0, vI 0] [] A := rfl

set_option maxRecDepth 100000 in
theorem q_X12_stands_275 (S SN : SX) (n : Nat) (x1 : Int) (A : AH)  : go true 3 S SN pb_X12_stands (n + 1) 275 [vR 21 190 0, vI x1] [] A =
    go true 3 S SN pb_X12_stands (n + 0) 251 [vR 21 190 0, vI (w32 (x1 + 1))] [] A := rfl

set_option maxRecDepth 100000 in
theorem q_X12_stands_283 (S SN : SX) (n : Nat) (x1 : Int) (A : AH)  : go true 3 S SN pb_X12_stands (n + 2) 283 [vR 21 190 0, vI x1] [] A =
    if x1 < 146 then
      if (0 : Int) ≤ x1 ∧ x1 < 146 then
        go true 3 S SN pb_X12_stands (n + 1) 297 [vR 21 190 0, vI x1] [] (wi A 237 x1.toNat 0)
      else none
    else
    go true 3 S SN pb_X12_stands (n + 0) 312 [vR 21 190 0, vI 0] [] (wi A 237 2 (-1)) := rfl

set_option maxRecDepth 100000 in
theorem q_X12_stands_297 (S SN : SX) (n : Nat) (x1 : Int) (A : AH)  : go true 3 S SN pb_X12_stands (n + 1) 297 [vR 21 190 0, vI x1] [] A =
    go true 3 S SN pb_X12_stands (n + 0) 283 [vR 21 190 0, vI (w32 (x1 + 1))] [] A := rfl

set_option maxRecDepth 100000 in
theorem q_X12_stands_312 (S SN : SX) (n : Nat) (x1 : Int) (A : AH)  : go true 3 S SN pb_X12_stands (n + 2) 312 [vR 21 190 0, vI x1] [] A =
    if x1 < (gi A 224 0) then
      if (0 : Int) ≤ w32 ((w32 (4 * x1)) + 3) ∧ w32 ((w32 (4 * x1)) + 3) < 64 then
        if (0 : Int) ≤ w32 (3 + x1) ∧ w32 (3 + x1) < 146 then
          go true 3 S SN pb_X12_stands (n + 1) 340 [vR 21 190 0, vI x1] [] (wi A 237 ((w32 (3 + x1)).toNat) (gi A 226 ((w32 ((w32 (4 * x1)) + 3)).toNat)))
        else none
      else none
    else
    go true 3 S SN pb_X12_stands (n + 0) 348 [vR 21 190 0, vI 0] [] A := rfl

set_option maxRecDepth 100000 in
theorem q_X12_stands_340 (S SN : SX) (n : Nat) (x1 : Int) (A : AH)  : go true 3 S SN pb_X12_stands (n + 1) 340 [vR 21 190 0, vI x1] [] A =
    go true 3 S SN pb_X12_stands (n + 0) 312 [vR 21 190 0, vI (w32 (x1 + 1))] [] A := rfl

set_option maxRecDepth 100000 in
theorem q_X12_stands_348 (S SN : SX) (n : Nat) (x1 : Int) (A : AH)  : go true 3 S SN pb_X12_stands (n + 2) 348 [vR 21 190 0, vI x1] [] A =
    if x1 < 6 then
      if (0 : Int) ≤ w32 (13 + x1) ∧ w32 (13 + x1) < 146 then
        go true 3 S SN pb_X12_stands (n + 1) 364 [vR 21 190 0, vI x1] [] (wi A 237 ((w32 (13 + x1)).toNat) (-1))
      else none
    else
    some (none, wi A 190 73 0) := rfl

set_option maxRecDepth 100000 in
theorem q_X12_stands_364 (S SN : SX) (n : Nat) (x1 : Int) (A : AH)  : go true 3 S SN pb_X12_stands (n + 1) 364 [vR 21 190 0, vI x1] [] A =
    go true 3 S SN pb_X12_stands (n + 0) 348 [vR 21 190 0, vI (w32 (x1 + 1))] [] A := rfl

set_option maxRecDepth 100000 in
theorem q_X12_code_0 (S SN : SX) (n : Nat) (x1 : Int) (A : AH)  : go true 3 S SN pb_X12_code (n + 1) 0 [vR 21 190 0, vI x1] [] A =
    if (0 : Int) ≤ w32 (0 + (gi A 190 55)) ∧ w32 (0 + (gi A 190 55)) < 3200 then
      go true 3 S SN pb_X12_code (n + 0) 12 [vR 21 190 0, vI x1] [] (wi A 233 ((w32 (0 + (gi A 190 55))).toNat) x1)
    else none := rfl

set_option maxRecDepth 100000 in
theorem q_X12_code_12 (S SN : SX) (n : Nat) (x1 : Int) (A : AH)  : go true 3 S SN pb_X12_code (n + 1) 12 [vR 21 190 0, vI x1] [] A =
    go true 3 S SN pb_X12_code (n + 0) 22 [vR 21 190 0, vI x1] [] (wi A 190 55 (w32 ((gi A 190 55) + 1))) := rfl

set_option maxRecDepth 100000 in
theorem q_X12_code_22 (S SN : SX) (n : Nat) (x1 : Int) (A : AH)  : go true 3 S SN pb_X12_code (n + 1) 22 [vR 21 190 0, vI x1] [] A =
    some (none, A) := rfl

set_option maxRecDepth 100000 in
theorem q_X12_opens_0 (S SN : SX) (n : Nat) (x1 : Int) (x2 : Int) (A : AH)  : go true 3 S SN pb_X12_opens (n + 2) 0 [vR 21 190 0, vI x1, vI x2] [] A =
    if (gi A 190 58) = 6 then
      cV (S 152 [vR 21 190 0, vI 4, vI x2] A) fun A1 =>
      some (none, A1)
    else
    go true 3 S SN pb_X12_opens (n + 0) 26 [vR 21 190 0, vI x1, vI x2] [] (wi A 190 58 (w32 ((gi A 190 58) + 1))) := rfl

set_option maxRecDepth 100000 in
theorem q_X12_opens_26 (S SN : SX) (n : Nat) (x1 : Int) (x2 : Int) (A : AH)  : go true 3 S SN pb_X12_opens (n + 1) 26 [vR 21 190 0, vI x1, vI x2] [] A =
    if (0 : Int) ≤ gi A 190 57 ∧ gi A 190 57 < 1700 then
      go true 3 S SN pb_X12_opens (n + 0) 36 [vR 21 190 0, vI x1, vI x2] [] (wi A 234 ((gi A 190 57).toNat) x1)
    else none := rfl

set_option maxRecDepth 100000 in
theorem q_X12_opens_36 (S SN : SX) (n : Nat) (x1 : Int) (x2 : Int) (A : AH)  : go true 3 S SN pb_X12_opens (n + 1) 36 [vR 21 190 0, vI x1, vI x2] [] A =
    go true 3 S SN pb_X12_opens (n + 0) 46 [vR 21 190 0, vI x1, vI x2] [] (wi A 190 57 (w32 ((gi A 190 57) + 1))) := rfl

set_option maxRecDepth 100000 in
theorem q_X12_opens_46 (S SN : SX) (n : Nat) (x1 : Int) (x2 : Int) (A : AH)  : go true 3 S SN pb_X12_opens (n + 1) 46 [vR 21 190 0, vI x1, vI x2] [] A =
    some (none, A) := rfl

set_option maxRecDepth 100000 in
theorem q_X12_isOn_0 (S SN : SX) (n : Nat) (x1 : Int) (A : AH)  : go true 2 S SN pb_X12_isOn (n + 2) 0 [vR 21 190 0, vI x1] [] A =
    if 0 < (gi A 190 57) then
      if (0 : Int) ≤ w32 ((gi A 190 57) - 1) ∧ w32 ((gi A 190 57) - 1) < 1700 then
        if (gi A 234 ((w32 ((gi A 190 57) - 1)).toNat)) = x1 then
          some (some (vI 1), A)
        else
        go true 2 S SN pb_X12_isOn (n + 1) 26 [vR 21 190 0, vI x1] [] A
      else none
    else
    go true 2 S SN pb_X12_isOn (n + 1) 26 [vR 21 190 0, vI x1] [] A := rfl

set_option maxRecDepth 100000 in
theorem q_X12_isOn_26 (S SN : SX) (n : Nat) (x1 : Int) (A : AH)  : go true 2 S SN pb_X12_isOn (n + 2) 26 [vR 21 190 0, vI x1] [] A =
    some (some (vI 0), A) := rfl

set_option maxRecDepth 100000 in
theorem q_X12_drops_0 (S SN : SX) (n : Nat)  (A : AH)  : go true 3 S SN pb_X12_drops (n + 1) 0 [vR 21 190 0] [] A =
    go true 3 S SN pb_X12_drops (n + 0) 10 [vR 21 190 0] [] (wi A 190 57 (w32 ((gi A 190 57) - 1))) := rfl

set_option maxRecDepth 100000 in
theorem q_X12_drops_10 (S SN : SX) (n : Nat)  (A : AH)  : go true 3 S SN pb_X12_drops (n + 1) 10 [vR 21 190 0] [] A =
    if (0 : Int) ≤ gi A 190 57 ∧ gi A 190 57 < 1700 then
      cV (S 179 [vR 21 190 0, vI (gi A 234 ((gi A 190 57).toNat))] A) fun A1 =>
      some (none, A1)
    else none := rfl

set_option maxRecDepth 100000 in
theorem q_X12_isMark_0 (S SN : SX) (n : Nat) (x1 : Int) (A : AH)  : go true 2 S SN pb_X12_isMark (n + 2) 0 [vR 21 190 0, vI x1] [] A =
    if x1 < 20 then
      go true 2 S SN pb_X12_isMark (n + 1) 16 [vR 21 190 0, vI x1] [] A
    else
    if 24 < x1 then
      go true 2 S SN pb_X12_isMark (n + 1) 16 [vR 21 190 0, vI x1] [] A
    else
    some (some (vI 1), A) := rfl

set_option maxRecDepth 100000 in
theorem q_X12_isMark_16 (S SN : SX) (n : Nat) (x1 : Int) (A : AH)  : go true 2 S SN pb_X12_isMark (n + 2) 16 [vR 21 190 0, vI x1] [] A =
    some (some (vI 0), A) := rfl

set_option maxRecDepth 100000 in
theorem q_X12_waitsLast_0 (S SN : SX) (n : Nat)  (A : AH)  : go true 0 S SN pb_X12_waitsLast (n + 1) 0 [vR 21 190 0, vU] [] A =
    go true 0 S SN pb_X12_waitsLast (n + 0) 7 [vR 21 190 0, vI (w32 ((gi A 190 57) - 1))] [] A := rfl

set_option maxRecDepth 100000 in
theorem q_X12_waitsLast_7 (S SN : SX) (n : Nat) (x1 : Int) (A : AH)  : go true 0 S SN pb_X12_waitsLast (n + 1) 7 [vR 21 190 0, vI x1] [] A =
    if x1 < (gi A 190 59) then
      go true 0 S SN pb_X12_waitsLast (n + 0) 34 [vR 21 190 0, vI x1] [] A
    else
    if (0 : Int) ≤ x1 ∧ x1 < 1700 then
      cI (S 183 [vR 21 190 0, vI (gi A 234 x1.toNat)] A) fun r2 A1 =>
      if r2 = 0 then
        go true 0 S SN pb_X12_waitsLast (n + 0) 7 [vR 21 190 0, vI (w32 (x1 + (-1)))] [] A1
      else
      go true 0 S SN pb_X12_waitsLast (n + 0) 34 [vR 21 190 0, vI x1] [] A1
    else none := rfl

set_option maxRecDepth 100000 in
theorem q_X12_waitsLast_34 (S SN : SX) (n : Nat) (x1 : Int) (A : AH)  : go true 0 S SN pb_X12_waitsLast (n + 3) 34 [vR 21 190 0, vI x1] [] A =
    if x1 < (gi A 190 59) then
      some (some (vI (-1)), A)
    else
    if (0 : Int) ≤ x1 ∧ x1 < 1700 then
      some (some (vI (gi A 234 x1.toNat)), A)
    else none := rfl

set_option maxRecDepth 100000 in
theorem q_X12_dropsToMark_0 (S SN : SX) (n : Nat)  (A : AH)  : go true 3 S SN pb_X12_dropsToMark (n + 2) 0 [vR 21 190 0] [] A =
    if (gi A 190 59) < (gi A 190 57) then
      if (0 : Int) ≤ w32 ((gi A 190 57) - 1) ∧ w32 ((gi A 190 57) - 1) < 1700 then
        cI (S 183 [vR 21 190 0, vI (gi A 234 ((w32 ((gi A 190 57) - 1)).toNat))] A) fun r2 A1 =>
        if r2 = 0 then
          cV (S 182 [vR 21 190 0] A1) fun A3 =>
          go true 3 S SN pb_X12_dropsToMark (n + 1) 0 [vR 21 190 0] [] A3
        else
        some (none, A1)
      else none
    else
    some (none, A) := rfl

set_option maxRecDepth 100000 in
theorem q_X12_onePart_0 (S SN : SX) (n : Nat)  (A : AH)  : go true 3 S SN pb_X12_onePart (n + 1) 0 [vR 21 190 0, vU, vU, vU, vU] [] A =
    go true 3 S SN pb_X12_onePart (n + 0) 2 [vR 21 190 0, vI 1, vU, vU, vU] [] A := rfl

set_option maxRecDepth 100000 in
theorem q_X12_onePart_2 (S SN : SX) (n : Nat) (x1 : Int) (u2 : AV) (u3 : AV) (u4 : AV) (A : AH)  : go true 3 S SN pb_X12_onePart (n + 3) 2 [vR 21 190 0, vI x1, u2, u3, u4] [] A =
    if x1 = 0 then
      go true 3 S SN pb_X12_onePart (n + 2) 146 [vR 21 190 0, vI x1, u2, u3, u4] [] A
    else
    if (gi A 190 5) = 0 then
      cI (S 155 [vR 21 190 0] A) fun r2 A1 =>
      if r2 = 40 then
        cV (S 180 [vR 21 190 0, vI 20, vI (gi A1 190 2)] A1) fun A3 =>
        go true 3 S SN pb_X12_onePart (n + 2) 44 [vR 21 190 0, vI x1, vI r2, u3, u4] [] (wi A3 190 2 (w32 ((gi A3 190 2) + 1)))
      else
      cI (S 156 [vR 21 190 0, vR 32 221 3] A1) fun r5 A4 =>
      if r5 = 0 then
        cI (S 156 [vR 21 190 0, vR 32 222 3] A4) fun r7 A6 =>
        if r7 = 0 then
          go true 3 S SN pb_X12_onePart (n + 0) 143 [vR 21 190 0, vI 0, vI r2, u3, u4] [] A6
        else
        go true 3 S SN pb_X12_onePart (n + 1) 69 [vR 21 190 0, vI x1, vI r2, u3, u4] [] A6
      else
      go true 3 S SN pb_X12_onePart (n + 1) 69 [vR 21 190 0, vI x1, vI r2, u3, u4] [] A4
    else
    go true 3 S SN pb_X12_onePart (n + 2) 146 [vR 21 190 0, vI x1, u2, u3, u4] [] A := rfl

set_option maxRecDepth 100000 in
theorem q_X12_onePart_44 (S SN : SX) (n : Nat) (x1 : Int) (x2 : Int) (u3 : AV) (u4 : AV) (A : AH)  : go true 3 S SN pb_X12_onePart (n + 1) 44 [vR 21 190 0, vI x1, vI x2, u3, u4] [] A =
    go true 3 S SN pb_X12_onePart (n + 0) 143 [vR 21 190 0, vI x1, vI x2, u3, u4] [] A := rfl

set_option maxRecDepth 100000 in
theorem q_X12_onePart_69 (S SN : SX) (n : Nat) (x1 : Int) (x2 : Int) (u3 : AV) (u4 : AV) (A : AH)  : go true 3 S SN pb_X12_onePart (n + 1) 69 [vR 21 190 0, vI x1, vI x2, u3, u4] [] A =
    cI (S 157 [vR 21 190 0, vR 32 221 3] A) fun r2 A1 =>
    if r2 = 0 then
      cV (S 158 [vR 21 190 0, vR 32 222 3] A1) fun A3 =>
      go true 3 S SN pb_X12_onePart (n + 0) 90 [vR 21 190 0, vI x1, vI x2, vI r2, u4] [] A3
    else
    go true 3 S SN pb_X12_onePart (n + 0) 90 [vR 21 190 0, vI x1, vI x2, vI r2, u4] [] A1 := rfl

set_option maxRecDepth 100000 in
theorem q_X12_onePart_90 (S SN : SX) (n : Nat) (x1 : Int) (x2 : Int) (x3 : Int) (u4 : AV) (A : AH)  : go true 3 S SN pb_X12_onePart (n + 2) 90 [vR 21 190 0, vI x1, vI x2, vI x3, u4] [] A =
    cI (S 155 [vR 21 190 0] A) fun r2 A1 =>
    if r2 = 40 then
      go true 3 S SN pb_X12_onePart (n + 1) 107 [vR 21 190 0, vI x1, vI x2, vI x3, u4] [vI (gi A1 190 2)] A1
    else
    go true 3 S SN pb_X12_onePart (n + 0) 107 [vR 21 190 0, vI x1, vI x2, vI x3, u4] [vI (-1)] A1 := rfl

set_option maxRecDepth 100000 in
theorem q_X12_onePart_107 (S SN : SX) (n : Nat) (x1 : Int) (x2 : Int) (x3 : Int) (u4 : AV) (sx0 : Int) (A : AH)  : go true 3 S SN pb_X12_onePart (n + 2) 107 [vR 21 190 0, vI x1, vI x2, vI x3, u4] [vI sx0] A =
    if sx0 = (-1) then
      go true 3 S SN pb_X12_onePart (n + 1) 132 [vR 21 190 0, vI x1, vI x2, vI x3, vI sx0] [] A
    else
    if x3 = 0 then
      go true 3 S SN pb_X12_onePart (n + 0) 127 [vR 21 190 0, vI x1, vI x2, vI x3, vI sx0] [vI 22, vR 21 190 0] A
    else
    go true 3 S SN pb_X12_onePart (n + 1) 127 [vR 21 190 0, vI x1, vI x2, vI x3, vI sx0] [vI 21, vR 21 190 0] A := rfl

set_option maxRecDepth 100000 in
theorem q_X12_onePart_127 (S SN : SX) (n : Nat) (x1 : Int) (x2 : Int) (x3 : Int) (x4 : Int) (sx0 : Int) (A : AH)  : go true 3 S SN pb_X12_onePart (n + 1) 127 [vR 21 190 0, vI x1, vI x2, vI x3, vI x4] [vI sx0, vR 21 190 0] A =
    cV (S 180 [vR 21 190 0, vI sx0, vI x4] A) fun A1 =>
    go true 3 S SN pb_X12_onePart (n + 0) 132 [vR 21 190 0, vI x1, vI x2, vI x3, vI x4] [] A1 := rfl

set_option maxRecDepth 100000 in
theorem q_X12_onePart_132 (S SN : SX) (n : Nat) (x1 : Int) (x2 : Int) (x3 : Int) (x4 : Int) (A : AH)  : go true 3 S SN pb_X12_onePart (n + 1) 132 [vR 21 190 0, vI x1, vI x2, vI x3, vI x4] [] A =
    cV (S 160 [vR 21 190 0, vI 40] A) fun A1 =>
    go true 3 S SN pb_X12_onePart (n + 0) 143 [vR 21 190 0, vI x1, vI x2, vI x3, vI x4] [] A1 := rfl

set_option maxRecDepth 100000 in
theorem q_X12_onePart_143 (S SN : SX) (n : Nat) (x1 : Int) (x2 : Int) (u3 : AV) (u4 : AV) (A : AH)  : go true 3 S SN pb_X12_onePart (n + 1) 143 [vR 21 190 0, vI x1, vI x2, u3, u4] [] A =
    go true 3 S SN pb_X12_onePart (n + 0) 2 [vR 21 190 0, vI x1, vI x2, u3, u4] [] A := rfl

set_option maxRecDepth 100000 in
theorem q_X12_onePart_146 (S SN : SX) (n : Nat) (x1 : Int) (u2 : AV) (u3 : AV) (u4 : AV) (A : AH)  : go true 3 S SN pb_X12_onePart (n + 5) 146 [vR 21 190 0, vI x1, u2, u3, u4] [] A =
    if (gi A 190 5) = 0 then
      cI (S 157 [vR 21 190 0, vR 32 195 5] A) fun r2 A1 =>
      if r2 = 0 then
        cI (S 157 [vR 21 190 0, vR 32 196 6] A1) fun r4 A3 =>
        if r4 = 0 then
          cI (S 157 [vR 21 190 0, vR 32 211 4] A3) fun r6 A5 =>
          if r6 = 0 then
            cI (S 157 [vR 21 190 0, vR 32 212 5] A5) fun r8 A7 =>
            if r8 = 0 then
              go true 3 S SN pb_X12_onePart (n + 0) 218 [vR 21 190 0, vI x1, u2, u3, u4] [] A7
            else
            go true 3 S SN pb_X12_onePart (n + 0) 283 [vR 21 190 0, vI x1, u2, u3, u4] [vI 10] A7
          else
          go true 3 S SN pb_X12_onePart (n + 1) 283 [vR 21 190 0, vI x1, u2, u3, u4] [vI 9] A5
        else
        go true 3 S SN pb_X12_onePart (n + 2) 283 [vR 21 190 0, vI x1, u2, u3, u4] [vI 8] A3
      else
      go true 3 S SN pb_X12_onePart (n + 3) 283 [vR 21 190 0, vI x1, u2, u3, u4] [vI 7] A1
    else
    some (none, A) := rfl

set_option maxRecDepth 100000 in
theorem q_X12_onePart_218 (S SN : SX) (n : Nat) (x1 : Int) (u2 : AV) (u3 : AV) (u4 : AV) (A : AH)  : go true 3 S SN pb_X12_onePart (n + 5) 218 [vR 21 190 0, vI x1, u2, u3, u4] [] A =
    cI (S 157 [vR 21 190 0, vR 32 213 5] A) fun r2 A1 =>
    if r2 = 0 then
      cI (S 157 [vR 21 190 0, vR 32 204 5] A1) fun r4 A3 =>
      if r4 = 0 then
        cI (S 157 [vR 21 190 0, vR 32 205 4] A3) fun r6 A5 =>
        if r6 = 0 then
          cI (S 157 [vR 21 190 0, vR 32 214 6] A5) fun r8 A7 =>
          if r8 = 0 then
            go true 3 S SN pb_X12_onePart (n + 0) 283 [vR 21 190 0, vI x1, u2, u3, u4] [vI (-1)] A7
          else
          go true 3 S SN pb_X12_onePart (n + 1) 283 [vR 21 190 0, vI x1, u2, u3, u4] [vI 14] A7
        else
        go true 3 S SN pb_X12_onePart (n + 2) 283 [vR 21 190 0, vI x1, u2, u3, u4] [vI 13] A5
      else
      go true 3 S SN pb_X12_onePart (n + 3) 283 [vR 21 190 0, vI x1, u2, u3, u4] [vI 12] A3
    else
    go true 3 S SN pb_X12_onePart (n + 4) 283 [vR 21 190 0, vI x1, u2, u3, u4] [vI 11] A1 := rfl

set_option maxRecDepth 100000 in
theorem q_X12_onePart_283 (S SN : SX) (n : Nat) (x1 : Int) (u2 : AV) (u3 : AV) (u4 : AV) (sx0 : Int) (A : AH)  : go true 3 S SN pb_X12_onePart (n + 2) 283 [vR 21 190 0, vI x1, u2, u3, u4] [vI sx0] A =
    if sx0 = (-1) then
      cI (S 161 [vR 21 190 0, vI 0, vI 9999] A) fun r2 A1 =>
      go true 3 S SN pb_X12_onePart (n + 0) 306 [vR 21 190 0, vI x1, vI sx0, u3, u4] [vI (w32 (1000 + r2)), vR 21 190 0] A1
    else
    go true 3 S SN pb_X12_onePart (n + 1) 306 [vR 21 190 0, vI x1, vI sx0, u3, u4] [vI sx0, vR 21 190 0] A := rfl

set_option maxRecDepth 100000 in
theorem q_X12_onePart_306 (S SN : SX) (n : Nat) (x1 : Int) (x2 : Int) (u3 : AV) (u4 : AV) (sx0 : Int) (A : AH)  : go true 3 S SN pb_X12_onePart (n + 1) 306 [vR 21 190 0, vI x1, vI x2, u3, u4] [vI sx0, vR 21 190 0] A =
    cV (S 179 [vR 21 190 0, vI sx0] A) fun A1 =>
    some (none, A1) := rfl

set_option maxRecDepth 100000 in
theorem q_X12_goesOn_0 (S SN : SX) (n : Nat)  (A : AH)  : go true 2 S SN pb_X12_goesOn (n + 1) 0 [vR 21 190 0, vU] [] A =
    if (gi A 190 5) = 0 then
      cI (S 155 [vR 21 190 0] A) fun r2 A1 =>
      if r2 = 41 then
        cI (S 184 [vR 21 190 0] A1) fun r4 A3 =>
        if r4 = 20 then
          go true 2 S SN pb_X12_goesOn (n + 0) 43 [vR 21 190 0, vU] [] A3
        else
        cI (S 184 [vR 21 190 0] A3) fun r6 A5 =>
        if r6 = 23 then
          go true 2 S SN pb_X12_goesOn (n + 0) 43 [vR 21 190 0, vU] [] A5
        else
        cI (S 184 [vR 21 190 0] A5) fun r8 A7 =>
        if r8 = 24 then
          go true 2 S SN pb_X12_goesOn (n + 0) 43 [vR 21 190 0, vU] [] A7
        else
        go true 2 S SN pb_X12_goesOn (n + 0) 118 [vR 21 190 0, vU] [] A7
      else
      go true 2 S SN pb_X12_goesOn (n + 0) 118 [vR 21 190 0, vU] [] A1
    else
    go true 2 S SN pb_X12_goesOn (n + 0) 118 [vR 21 190 0, vU] [] A := rfl

set_option maxRecDepth 100000 in
theorem q_X12_goesOn_43 (S SN : SX) (n : Nat) (u1 : AV) (A : AH)  : go true 2 S SN pb_X12_goesOn (n + 1) 43 [vR 21 190 0, u1] [] A =
    go true 2 S SN pb_X12_goesOn (n + 0) 53 [vR 21 190 0, u1] [] (wi A 190 2 (w32 ((gi A 190 2) + 1))) := rfl

set_option maxRecDepth 100000 in
theorem q_X12_goesOn_53 (S SN : SX) (n : Nat) (u1 : AV) (A : AH)  : go true 2 S SN pb_X12_goesOn (n + 1) 53 [vR 21 190 0, u1] [] A =
    cV (S 185 [vR 21 190 0] A) fun A1 =>
    go true 2 S SN pb_X12_goesOn (n + 0) 67 [vR 21 190 0, u1] [] (wi A1 190 57 (w32 ((gi A1 190 57) - 1))) := rfl

set_option maxRecDepth 100000 in
theorem q_X12_goesOn_67 (S SN : SX) (n : Nat) (u1 : AV) (A : AH)  : go true 2 S SN pb_X12_goesOn (n + 1) 67 [vR 21 190 0, u1] [] A =
    go true 2 S SN pb_X12_goesOn (n + 0) 77 [vR 21 190 0, u1] [] (wi A 190 58 (w32 ((gi A 190 58) - 1))) := rfl

set_option maxRecDepth 100000 in
theorem q_X12_goesOn_77 (S SN : SX) (n : Nat) (u1 : AV) (A : AH)  : go true 2 S SN pb_X12_goesOn (n + 2) 77 [vR 21 190 0, u1] [] A =
    if (0 : Int) ≤ gi A 190 57 ∧ gi A 190 57 < 1700 then
      if (gi A 234 ((gi A 190 57).toNat)) = 20 then
        go true 2 S SN pb_X12_goesOn (n + 1) 0 [vR 21 190 0, u1] [] A
      else
      if (0 : Int) ≤ gi A 190 57 ∧ gi A 190 57 < 1700 then
        if (gi A 234 ((gi A 190 57).toNat)) = 23 then
          go true 2 S SN pb_X12_goesOn (n + 1) 112 [vR 21 190 0, u1] [vI 5, vR 21 190 0] A
        else
        go true 2 S SN pb_X12_goesOn (n + 0) 112 [vR 21 190 0, u1] [vI 6, vR 21 190 0] A
      else none
    else none := rfl

set_option maxRecDepth 100000 in
theorem q_X12_goesOn_112 (S SN : SX) (n : Nat) (u1 : AV) (sx0 : Int) (A : AH)  : go true 2 S SN pb_X12_goesOn (n + 1) 112 [vR 21 190 0, u1] [vI sx0, vR 21 190 0] A =
    cV (S 179 [vR 21 190 0, vI sx0] A) fun A1 =>
    go true 2 S SN pb_X12_goesOn (n + 0) 0 [vR 21 190 0, u1] [] A1 := rfl

set_option maxRecDepth 100000 in
theorem q_X12_goesOn_118 (S SN : SX) (n : Nat) (u1 : AV) (A : AH)  : go true 2 S SN pb_X12_goesOn (n + 5) 118 [vR 21 190 0, u1] [] A =
    cI (S 159 [vR 21 190 0, vI 42] A) fun r2 A1 =>
    if r2 = 0 then
      cI (S 159 [vR 21 190 0, vI 47] A1) fun r4 A3 =>
      if r4 = 0 then
        cI (S 159 [vR 21 190 0, vI 43] A3) fun r6 A5 =>
        if r6 = 0 then
          cI (S 159 [vR 21 190 0, vI 45] A5) fun r8 A7 =>
          if r8 = 0 then
            cI (S 184 [vR 21 190 0] A7) fun r10 A9 =>
            if r10 = 21 then
              go true 2 S SN pb_X12_goesOn (n + 2) 322 [vR 21 190 0, u1] [] A9
            else
            cI (S 184 [vR 21 190 0] A9) fun r12 A11 =>
            if r12 = 22 then
              go true 2 S SN pb_X12_goesOn (n + 2) 322 [vR 21 190 0, u1] [] A11
            else
            cI (S 184 [vR 21 190 0] A11) fun r14 A13 =>
            if r14 = (-1) then
              some (some (vI 0), A13)
            else
            if (gi A13 190 5) = 0 then
              cV (S 152 [vR 21 190 0, vI 1, vI (gi A13 190 2)] A13) fun A15 =>
              some (some (vI 0), A15)
            else
            some (some (vI 0), A13)
          else
          go true 2 S SN pb_X12_goesOn (n + 3) 221 [vR 21 190 0, u1] [] A7
        else
        go true 2 S SN pb_X12_goesOn (n + 3) 221 [vR 21 190 0, u1] [] A5
      else
      go true 2 S SN pb_X12_goesOn (n + 4) 136 [vR 21 190 0, u1] [] A3
    else
    go true 2 S SN pb_X12_goesOn (n + 4) 136 [vR 21 190 0, u1] [] A1 := rfl

set_option maxRecDepth 100000 in
theorem q_X12_goesOn_136 (S SN : SX) (n : Nat) (u1 : AV) (A : AH)  : go true 2 S SN pb_X12_goesOn (n + 2) 136 [vR 21 190 0, u1] [] A =
    if (0 : Int) ≤ w32 ((gi A 190 2) - 1) ∧ w32 ((gi A 190 2) - 1) < 1600 then
      if (gi A 191 ((w32 ((gi A 190 2) - 1)).toNat)) = 42 then
        go true 2 S SN pb_X12_goesOn (n + 1) 157 [vR 21 190 0, u1] [vI 3] A
      else
      go true 2 S SN pb_X12_goesOn (n + 0) 157 [vR 21 190 0, u1] [vI 4] A
    else none := rfl

set_option maxRecDepth 100000 in
theorem q_X12_goesOn_157 (S SN : SX) (n : Nat) (u1 : AV) (sx0 : Int) (A : AH)  : go true 2 S SN pb_X12_goesOn (n + 1) 157 [vR 21 190 0, u1] [vI sx0] A =
    go true 2 S SN pb_X12_goesOn (n + 0) 158 [vR 21 190 0, vI sx0] [] A := rfl

set_option maxRecDepth 100000 in
theorem q_X12_goesOn_158 (S SN : SX) (n : Nat) (x1 : Int) (A : AH)  : go true 2 S SN pb_X12_goesOn (n + 2) 158 [vR 21 190 0, vI x1] [] A =
    cI (S 181 [vR 21 190 0, vI 3] A) fun r2 A1 =>
    if r2 = 0 then
      cI (S 181 [vR 21 190 0, vI 4] A1) fun r4 A3 =>
      if r4 = 0 then
        if (0 : Int) ≤ gi A3 190 57 ∧ gi A3 190 57 < 1700 then
          go true 2 S SN pb_X12_goesOn (n + 0) 191 [vR 21 190 0, vI x1] [] (wi A3 234 ((gi A3 190 57).toNat) x1)
        else none
      else
      go true 2 S SN pb_X12_goesOn (n + 1) 174 [vR 21 190 0, vI x1] [] A3
    else
    go true 2 S SN pb_X12_goesOn (n + 1) 174 [vR 21 190 0, vI x1] [] A1 := rfl

set_option maxRecDepth 100000 in
theorem q_X12_goesOn_174 (S SN : SX) (n : Nat) (x1 : Int) (A : AH)  : go true 2 S SN pb_X12_goesOn (n + 1) 174 [vR 21 190 0, vI x1] [] A =
    cV (S 182 [vR 21 190 0] A) fun A1 =>
    go true 2 S SN pb_X12_goesOn (n + 0) 158 [vR 21 190 0, vI x1] [] A1 := rfl

set_option maxRecDepth 100000 in
theorem q_X12_goesOn_191 (S SN : SX) (n : Nat) (x1 : Int) (A : AH)  : go true 2 S SN pb_X12_goesOn (n + 1) 191 [vR 21 190 0, vI x1] [] A =
    go true 2 S SN pb_X12_goesOn (n + 0) 201 [vR 21 190 0, vI x1] [] (wi A 190 57 (w32 ((gi A 190 57) + 1))) := rfl

set_option maxRecDepth 100000 in
theorem q_X12_goesOn_201 (S SN : SX) (n : Nat) (x1 : Int) (A : AH)  : go true 2 S SN pb_X12_goesOn (n + 1) 201 [vR 21 190 0, vI x1] [] A =
    some (some (vI 1), A) := rfl

set_option maxRecDepth 100000 in
theorem q_X12_goesOn_221 (S SN : SX) (n : Nat) (u1 : AV) (A : AH)  : go true 2 S SN pb_X12_goesOn (n + 2) 221 [vR 21 190 0, u1] [] A =
    if (0 : Int) ≤ w32 ((gi A 190 2) - 1) ∧ w32 ((gi A 190 2) - 1) < 1600 then
      if (gi A 191 ((w32 ((gi A 190 2) - 1)).toNat)) = 43 then
        go true 2 S SN pb_X12_goesOn (n + 1) 242 [vR 21 190 0, u1] [vI 1] A
      else
      go true 2 S SN pb_X12_goesOn (n + 0) 242 [vR 21 190 0, u1] [vI 2] A
    else none := rfl

set_option maxRecDepth 100000 in
theorem q_X12_goesOn_242 (S SN : SX) (n : Nat) (u1 : AV) (sx0 : Int) (A : AH)  : go true 2 S SN pb_X12_goesOn (n + 1) 242 [vR 21 190 0, u1] [vI sx0] A =
    go true 2 S SN pb_X12_goesOn (n + 0) 243 [vR 21 190 0, vI sx0] [] A := rfl

set_option maxRecDepth 100000 in
theorem q_X12_goesOn_243 (S SN : SX) (n : Nat) (x1 : Int) (A : AH)  : go true 2 S SN pb_X12_goesOn (n + 2) 243 [vR 21 190 0, vI x1] [] A =
    cI (S 181 [vR 21 190 0, vI 3] A) fun r2 A1 =>
    if r2 = 0 then
      cI (S 181 [vR 21 190 0, vI 4] A1) fun r4 A3 =>
      if r4 = 0 then
        cI (S 181 [vR 21 190 0, vI 1] A3) fun r6 A5 =>
        if r6 = 0 then
          cI (S 181 [vR 21 190 0, vI 2] A5) fun r8 A7 =>
          if r8 = 0 then
            if (0 : Int) ≤ gi A7 190 57 ∧ gi A7 190 57 < 1700 then
              go true 2 S SN pb_X12_goesOn (n + 0) 292 [vR 21 190 0, vI x1] [] (wi A7 234 ((gi A7 190 57).toNat) x1)
            else none
          else
          go true 2 S SN pb_X12_goesOn (n + 1) 275 [vR 21 190 0, vI x1] [] A7
        else
        go true 2 S SN pb_X12_goesOn (n + 1) 275 [vR 21 190 0, vI x1] [] A5
      else
      go true 2 S SN pb_X12_goesOn (n + 1) 275 [vR 21 190 0, vI x1] [] A3
    else
    go true 2 S SN pb_X12_goesOn (n + 1) 275 [vR 21 190 0, vI x1] [] A1 := rfl

set_option maxRecDepth 100000 in
theorem q_X12_goesOn_275 (S SN : SX) (n : Nat) (x1 : Int) (A : AH)  : go true 2 S SN pb_X12_goesOn (n + 1) 275 [vR 21 190 0, vI x1] [] A =
    cV (S 182 [vR 21 190 0] A) fun A1 =>
    go true 2 S SN pb_X12_goesOn (n + 0) 243 [vR 21 190 0, vI x1] [] A1 := rfl

set_option maxRecDepth 100000 in
theorem q_X12_goesOn_292 (S SN : SX) (n : Nat) (x1 : Int) (A : AH)  : go true 2 S SN pb_X12_goesOn (n + 1) 292 [vR 21 190 0, vI x1] [] A =
    go true 2 S SN pb_X12_goesOn (n + 0) 302 [vR 21 190 0, vI x1] [] (wi A 190 57 (w32 ((gi A 190 57) + 1))) := rfl

set_option maxRecDepth 100000 in
theorem q_X12_goesOn_302 (S SN : SX) (n : Nat) (x1 : Int) (A : AH)  : go true 2 S SN pb_X12_goesOn (n + 1) 302 [vR 21 190 0, vI x1] [] A =
    some (some (vI 1), A) := rfl

set_option maxRecDepth 100000 in
theorem q_X12_goesOn_322 (S SN : SX) (n : Nat) (u1 : AV) (A : AH)  : go true 2 S SN pb_X12_goesOn (n + 2) 322 [vR 21 190 0, u1] [] A =
    cV (S 160 [vR 21 190 0, vI 44] A) fun A1 =>
    if (gi A1 190 5) = 0 then
      cV (S 185 [vR 21 190 0] A1) fun A2 =>
      if (0 : Int) ≤ w32 ((gi A2 190 57) - 1) ∧ w32 ((gi A2 190 57) - 1) < 1700 then
        if (0 : Int) ≤ w32 ((gi A2 190 57) - 1) ∧ w32 ((gi A2 190 57) - 1) < 1700 then
          go true 2 S SN pb_X12_goesOn (n + 0) 356 [vR 21 190 0, u1] [] (wi A2 234 ((w32 ((gi A2 190 57) - 1)).toNat) (w32 ((gi A2 234 ((w32 ((gi A2 190 57) - 1)).toNat)) + 2)))
        else none
      else none
    else
    some (some (vI 0), A1) := rfl

set_option maxRecDepth 100000 in
theorem q_X12_goesOn_356 (S SN : SX) (n : Nat) (u1 : AV) (A : AH)  : go true 2 S SN pb_X12_goesOn (n + 1) 356 [vR 21 190 0, u1] [] A =
    some (some (vI 1), A) := rfl
