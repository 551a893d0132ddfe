set_option maxRecDepth 100000 in
theorem q_X12_isSeat_0 (S SN : SX) (n : Nat) (x1 : Int) (A : AH)  : go true 2 S SN pb_X12_isSeat (n + 1) 0 [vR 21 190 0, vI x1] [] A =
    cI (S 194 [vR 21 190 0] A) fun r2 A1 =>
    cI (S 149 [vL x1, vL 0, vL (w32 (r2 - 1))] A1) fun r4 A3 =>
    if r4 = 0 ∨ r4 = 1 then some (some (vI r4), A3) else
    none := rfl

set_option maxRecDepth 100000 in
theorem q_X12_seatOf_0 (S SN : SX) (n : Nat) (x1 : Int) (A : AH)  : go true 0 S SN pb_X12_seatOf (n + 1) 0 [vR 21 190 0, vI x1] [] A =
    if (0 : Int) ≤ w32 (3 + x1) ∧ w32 (3 + x1) < 146 then some (some (vI (gi A 237 ((w32 (3 + x1)).toNat))), A) else
    none := rfl

set_option maxRecDepth 100000 in
theorem q_X12_doesSit_0 (S SN : SX) (n : Nat) (x1 : Int) (A : AH)  : go true 2 S SN pb_X12_doesSit (n + 1) 0 [vR 21 190 0, vI x1] [] A =
    cI (S 195 [vR 21 190 0] A) fun r2 A1 =>
    cI (S 149 [vL x1, vL 0, vL (w32 (r2 - 1))] A1) fun r4 A3 =>
    if r4 = 0 then
      cI (S 196 [vR 21 190 0] A3) fun r6 A5 =>
      cI (S 149 [vL x1, vL 10, vL (w32 ((w32 (10 + r6)) - 1))] A5) fun r8 A7 =>
      if r8 = 0 then
        go true 2 S SN pb_X12_doesSit (n + 0) 50 [vR 21 190 0, vI x1] [] A7
      else
      cI (S 199 [vR 21 190 0, vI x1] A7) fun r10 A9 =>
      if r10 = (-1) then
        go true 2 S SN pb_X12_doesSit (n + 0) 50 [vR 21 190 0, vI x1] [] A9
      else
      go true 2 S SN pb_X12_doesSit (n + 0) 46 [vR 21 190 0, vI x1] [] A9
    else
    go true 2 S SN pb_X12_doesSit (n + 0) 46 [vR 21 190 0, vI x1] [] A3 := rfl

set_option maxRecDepth 100000 in
theorem q_X12_doesSit_46 (S SN : SX) (n : Nat) (x1 : Int) (A : AH)  : go true 2 S SN pb_X12_doesSit (n + 2) 46 [vR 21 190 0, vI x1] [] A =
    some (some (vI 1), A) := rfl

set_option maxRecDepth 100000 in
theorem q_X12_doesSit_50 (S SN : SX) (n : Nat) (x1 : Int) (A : AH)  : go true 2 S SN pb_X12_doesSit (n + 2) 50 [vR 21 190 0, vI x1] [] A =
    some (some (vI 0), A) := rfl

set_option maxRecDepth 100000 in
theorem q_X12_sitterAt_0 (S SN : SX) (n : Nat) (x1 : Int) (A : AH)  : go true 0 S SN pb_X12_sitterAt (n + 1) 0 [vR 21 190 0, vI x1, vU] [] A =
    go true 0 S SN pb_X12_sitterAt (n + 0) 2 [vR 21 190 0, vI x1, vI 0] [] A := rfl

set_option maxRecDepth 100000 in
theorem q_X12_sitterAt_2 (S SN : SX) (n : Nat) (x1 : Int) (x2 : Int) (A : AH)  : go true 0 S SN pb_X12_sitterAt (n + 2) 2 [vR 21 190 0, vI x1, vI x2] [] A =
    if x2 < 16 then
      cI (S 200 [vR 21 190 0, vI x2] A) fun r2 A1 =>
      if r2 = 0 then
        go true 0 S SN pb_X12_sitterAt (n + 1) 27 [vR 21 190 0, vI x1, vI x2] [] A1
      else
      cI (S 199 [vR 21 190 0, vI x2] A1) fun r4 A3 =>
      if r4 = x1 then some (some (vI x2), A3) else
      go true 0 S SN pb_X12_sitterAt (n + 1) 27 [vR 21 190 0, vI x1, vI x2] [] A3
    else
    some (some (vI (-1)), A) := rfl

set_option maxRecDepth 100000 in
theorem q_X12_sitterAt_27 (S SN : SX) (n : Nat) (x1 : Int) (x2 : Int) (A : AH)  : go true 0 S SN pb_X12_sitterAt (n + 1) 27 [vR 21 190 0, vI x1, vI x2] [] A =
    go true 0 S SN pb_X12_sitterAt (n + 0) 2 [vR 21 190 0, vI x1, vI (w32 (x2 + 1))] [] A := rfl

set_option maxRecDepth 100000 in
theorem q_X12_isMute_0 (S SN : SX) (n : Nat) (x1 : Int) (A : AH)  : go true 2 S SN pb_X12_isMute (n + 3) 0 [vR 21 190 0, vI x1] [] A =
    if x1 < 10 then
      some (some (vI 0), A)
    else
    some (some (vI 1), A) := rfl

set_option maxRecDepth 100000 in
theorem q_X12_keepsOf_0 (S SN : SX) (n : Nat) (x1 : Int) (A : AH)  : go true 0 S SN pb_X12_keepsOf (n + 3) 0 [vR 21 190 0, vI x1] [] A =
    cI (S 202 [vR 21 190 0, vI x1] A) fun r2 A1 =>
    if r2 = 0 then
      if (0 : Int) ≤ w32 (32 + (w32 (4 * x1))) ∧ w32 (32 + (w32 (4 * x1))) < 64 then
        some (some (vI (gi A1 226 ((w32 (32 + (w32 (4 * x1)))).toNat))), A1)
      else none
    else
    if (0 : Int) ≤ w32 (12 + (w32 (2 * (w32 (x1 - 10))))) ∧ w32 (12 + (w32 (2 * (w32 (x1 - 10))))) < 24 then
      some (some (vI (gi A1 227 ((w32 (12 + (w32 (2 * (w32 (x1 - 10)))))).toNat))), A1)
    else none := rfl

set_option maxRecDepth 100000 in
theorem q_X12_itchesOf_0 (S SN : SX) (n : Nat) (x1 : Int) (A : AH)  : go true 0 S SN pb_X12_itchesOf (n + 3) 0 [vR 21 190 0, vI x1] [] A =
    cI (S 202 [vR 21 190 0, vI x1] A) fun r2 A1 =>
    if r2 = 0 then
      if (0 : Int) ≤ w32 (33 + (w32 (4 * x1))) ∧ w32 (33 + (w32 (4 * x1))) < 64 then
        some (some (vI (gi A1 226 ((w32 (33 + (w32 (4 * x1)))).toNat))), A1)
      else none
    else
    some (some (vI 0), A1) := rfl

set_option maxRecDepth 100000 in
theorem q_X12_partyOf_0 (S SN : SX) (n : Nat) (x1 : Int) (A : AH)  : go true 0 S SN pb_X12_partyOf (n + 3) 0 [vR 21 190 0, vI x1] [] A =
    cI (S 202 [vR 21 190 0, vI x1] A) fun r2 A1 =>
    if r2 = 0 then
      if (0 : Int) ≤ w32 (34 + (w32 (4 * x1))) ∧ w32 (34 + (w32 (4 * x1))) < 64 then
        some (some (vI (gi A1 226 ((w32 (34 + (w32 (4 * x1)))).toNat))), A1)
      else none
    else
    if (0 : Int) ≤ w32 ((w32 (19 + x1)) - 10) ∧ w32 ((w32 (19 + x1)) - 10) < 146 then
      some (some (vI (gi A1 237 ((w32 ((w32 (19 + x1)) - 10)).toNat))), A1)
    else none := rfl

set_option maxRecDepth 100000 in
theorem q_X12_isBeside_0 (S SN : SX) (n : Nat) (x1 : Int) (x2 : Int) (A : AH)  : go true 2 S SN pb_X12_isBeside (n + 3) 0 [vR 21 190 0, vI x1, vI x2] [] A =
    cI (S 199 [vR 21 190 0, vI x1] A) fun r2 A1 =>
    cI (S 199 [vR 21 190 0, vI x2] A1) fun r4 A3 =>
    if (w32 (r2 - r4)) = 1 then
      go true 2 S SN pb_X12_isBeside (n + 2) 30 [vR 21 190 0, vI x1, vI x2] [] A3
    else
    cI (S 199 [vR 21 190 0, vI x2] A3) fun r6 A5 =>
    cI (S 199 [vR 21 190 0, vI x1] A5) fun r8 A7 =>
    if (w32 (r6 - r8)) = 1 then
      go true 2 S SN pb_X12_isBeside (n + 2) 30 [vR 21 190 0, vI x1, vI x2] [] A7
    else
    some (some (vI 0), A7) := rfl

set_option maxRecDepth 100000 in
theorem q_X12_isBeside_30 (S SN : SX) (n : Nat) (x1 : Int) (x2 : Int) (A : AH)  : go true 2 S SN pb_X12_isBeside (n + 2) 30 [vR 21 190 0, vI x1, vI x2] [] A =
    some (some (vI 1), A) := rfl

set_option maxRecDepth 100000 in
theorem q_X12_nearOf_0 (S SN : SX) (n : Nat) (x1 : Int) (A : AH)  : go true 0 S SN pb_X12_nearOf (n + 1) 0 [vR 21 190 0, vI x1, vU, vU] [] A =
    go true 0 S SN pb_X12_nearOf (n + 0) 4 [vR 21 190 0, vI x1, vI 0, vI 0] [] A := rfl

set_option maxRecDepth 100000 in
theorem q_X12_nearOf_4 (S SN : SX) (n : Nat) (x1 : Int) (x2 : Int) (x3 : Int) (A : AH)  : go true 0 S SN pb_X12_nearOf (n + 2) 4 [vR 21 190 0, vI x1, vI x2, vI x3] [] A =
    if x3 < 16 then
      cI (S 200 [vR 21 190 0, vI x3] A) fun r2 A1 =>
      if r2 = 0 then
        go true 0 S SN pb_X12_nearOf (n + 1) 30 [vR 21 190 0, vI x1, vI x2, vI x3] [] A1
      else
      cI (S 206 [vR 21 190 0, vI x3, vI x1] A1) fun r4 A3 =>
      if r4 = 0 then
        go true 0 S SN pb_X12_nearOf (n + 1) 30 [vR 21 190 0, vI x1, vI x2, vI x3] [] A3
      else
      go true 0 S SN pb_X12_nearOf (n + 1) 30 [vR 21 190 0, vI x1, vI (w32 (x2 + 1)), vI x3] [] A3
    else
    some (some (vI x2), A) := rfl

set_option maxRecDepth 100000 in
theorem q_X12_nearOf_30 (S SN : SX) (n : Nat) (x1 : Int) (x2 : Int) (x3 : Int) (A : AH)  : go true 0 S SN pb_X12_nearOf (n + 1) 30 [vR 21 190 0, vI x1, vI x2, vI x3] [] A =
    go true 0 S SN pb_X12_nearOf (n + 0) 4 [vR 21 190 0, vI x1, vI x2, vI (w32 (x3 + 1))] [] A := rfl

set_option maxRecDepth 100000 in
theorem q_X12_hatedOf_0 (S SN : SX) (n : Nat) (x1 : Int) (A : AH)  : go true 0 S SN pb_X12_hatedOf (n + 1) 0 [vR 21 190 0, vI x1, vU, vU] [] A =
    go true 0 S SN pb_X12_hatedOf (n + 0) 4 [vR 21 190 0, vI x1, vI 0, vI 0] [] A := rfl

set_option maxRecDepth 100000 in
theorem q_X12_hatedOf_4 (S SN : SX) (n : Nat) (x1 : Int) (x2 : Int) (x3 : Int) (A : AH)  : go true 0 S SN pb_X12_hatedOf (n + 2) 4 [vR 21 190 0, vI x1, vI x2, vI x3] [] A =
    if x3 < 16 then
      cI (S 200 [vR 21 190 0, vI x3] A) fun r2 A1 =>
      if r2 = 0 then
        go true 0 S SN pb_X12_hatedOf (n + 1) 59 [vR 21 190 0, vI x1, vI x2, vI x3] [] A1
      else
      cI (S 206 [vR 21 190 0, vI x3, vI x1] A1) fun r4 A3 =>
      if r4 = 0 then
        go true 0 S SN pb_X12_hatedOf (n + 1) 59 [vR 21 190 0, vI x1, vI x2, vI x3] [] A3
      else
      if (0 : Int) ≤ w32 (16 + x3) ∧ w32 (16 + x3) < 32 then
        if (0 : Int) ≤ w32 (16 + x1) ∧ w32 (16 + x1) < 32 then
          if (band (bor (bshr (gi A3 230 ((w32 (16 + x3)).toNat)) x1) (bshr (gi A3 230 ((w32 (16 + x1)).toNat)) x3)) 1) = 1 then
            go true 0 S SN pb_X12_hatedOf (n + 1) 59 [vR 21 190 0, vI x1, vI (w32 (x2 + 1)), vI x3] [] A3
          else
          go true 0 S SN pb_X12_hatedOf (n + 1) 59 [vR 21 190 0, vI x1, vI x2, vI x3] [] A3
        else none
      else none
    else
    some (some (vI x2), A) := rfl

set_option maxRecDepth 100000 in
theorem q_X12_hatedOf_59 (S SN : SX) (n : Nat) (x1 : Int) (x2 : Int) (x3 : Int) (A : AH)  : go true 0 S SN pb_X12_hatedOf (n + 1) 59 [vR 21 190 0, vI x1, vI x2, vI x3] [] A =
    go true 0 S SN pb_X12_hatedOf (n + 0) 4 [vR 21 190 0, vI x1, vI x2, vI (w32 (x3 + 1))] [] A := rfl

set_option maxRecDepth 100000 in
theorem q_X12_askedOf_0 (S SN : SX) (n : Nat) (x1 : Int) (A : AH)  : go true 0 S SN pb_X12_askedOf (n + 3) 0 [vR 21 190 0, vI x1, vU] [] A =
    cI (S 205 [vR 21 190 0, vI x1] A) fun r2 A1 =>
    if (gi A1 237 2) = (-1) then
      go true 0 S SN pb_X12_askedOf (n + 2) 21 [vR 21 190 0, vI x1, vI r2] [] A1
    else
    if r2 = 2 then
      go true 0 S SN pb_X12_askedOf (n + 2) 21 [vR 21 190 0, vI x1, vI r2] [] A1
    else
    if (0 : Int) ≤ w32 ((w32 (8 + (w32 (2 * (gi A1 237 2))))) + r2) ∧ w32 ((w32 (8 + (w32 (2 * (gi A1 237 2))))) + r2) < 16 then
      some (some (vI (gi A1 228 ((w32 ((w32 (8 + (w32 (2 * (gi A1 237 2))))) + r2)).toNat))), A1)
    else none := rfl

set_option maxRecDepth 100000 in
theorem q_X12_askedOf_21 (S SN : SX) (n : Nat) (x1 : Int) (x2 : Int) (A : AH)  : go true 0 S SN pb_X12_askedOf (n + 2) 21 [vR 21 190 0, vI x1, vI x2] [] A =
    some (some (vI 0), A) := rfl

set_option maxRecDepth 100000 in
theorem q_X12_noiseAt_0 (S SN : SX) (n : Nat) (x1 : Int) (x2 : Int) (A : AH)  : go true 0 S SN pb_X12_noiseAt (n + 1) 0 [vR 21 190 0, vI x1, vI x2, vU, vU, vU, vU] [] A =
    go true 0 S SN pb_X12_noiseAt (n + 0) 5 [vR 21 190 0, vI x1, vI x2, vI 0, vI 0, vU, vU] [] A := rfl

set_option maxRecDepth 100000 in
theorem q_X12_noiseAt_5 (S SN : SX) (n : Nat) (x1 : Int) (x2 : Int) (x3 : Int) (x4 : Int) (u5 : AV) (u6 : AV) (A : AH)  : go true 0 S SN pb_X12_noiseAt (n + 2) 5 [vR 21 190 0, vI x1, vI x2, vI x3, vI x4, u5, u6] [] A =
    if x4 < (gi A 224 9) then
      if x4 = (gi A 190 65) then
        go true 0 S SN pb_X12_noiseAt (n + 1) 99 [vR 21 190 0, vI x1, vI x2, vI x3, vI x4, u5, u6] [] A
      else
      if (0 : Int) ≤ w32 (18 + (w32 (3 * x4))) ∧ w32 (18 + (w32 (3 * x4))) < 36 then
        if (gi A 229 ((w32 (18 + (w32 (3 * x4)))).toNat)) = x2 then
          go true 0 S SN pb_X12_noiseAt (n + 1) 45 [vR 21 190 0, vI x1, vI x2, vI x3, vI x4, u5, u6] [] A
        else
        go true 0 S SN pb_X12_noiseAt (n + 1) 99 [vR 21 190 0, vI x1, vI x2, vI x3, vI x4, u5, u6] [] A
      else none
    else
    some (some (vI x3), A) := rfl

set_option maxRecDepth 100000 in
theorem q_X12_noiseAt_45 (S SN : SX) (n : Nat) (x1 : Int) (x2 : Int) (x3 : Int) (x4 : Int) (u5 : AV) (u6 : AV) (A : AH)  : go true 0 S SN pb_X12_noiseAt (n + 2) 45 [vR 21 190 0, vI x1, vI x2, vI x3, vI x4, u5, u6] [] A =
    if (0 : Int) ≤ w32 (19 + (w32 (3 * x4))) ∧ w32 (19 + (w32 (3 * x4))) < 36 then
      if (0 : Int) ≤ w32 (20 + (w32 (3 * x4))) ∧ w32 (20 + (w32 (3 * x4))) < 36 then
        if (w32 ((gi A 229 ((w32 (19 + (w32 (3 * x4)))).toNat)) - x1)) < 0 then
          go true 0 S SN pb_X12_noiseAt (n + 1) 86 [vR 21 190 0, vI x1, vI x2, vI x3, vI x4, vI (w32 ((gi A 229 ((w32 (19 + (w32 (3 * x4)))).toNat)) - x1)), u6] [vI (w32 (-(w32 ((gi A 229 ((w32 (19 + (w32 (3 * x4)))).toNat)) - x1)))), vI (gi A 229 ((w32 (20 + (w32 (3 * x4)))).toNat))] A
        else
        go true 0 S SN pb_X12_noiseAt (n + 0) 86 [vR 21 190 0, vI x1, vI x2, vI x3, vI x4, vI (w32 ((gi A 229 ((w32 (19 + (w32 (3 * x4)))).toNat)) - x1)), u6] [vI (w32 ((gi A 229 ((w32 (19 + (w32 (3 * x4)))).toNat)) - x1)), vI (gi A 229 ((w32 (20 + (w32 (3 * x4)))).toNat))] A
      else none
    else none := rfl

set_option maxRecDepth 100000 in
theorem q_X12_noiseAt_86 (S SN : SX) (n : Nat) (x1 : Int) (x2 : Int) (x3 : Int) (x4 : Int) (x5 : Int) (u6 : AV) (sx0 : Int) (sx1 : Int) (A : AH)  : go true 0 S SN pb_X12_noiseAt (n + 1) 86 [vR 21 190 0, vI x1, vI x2, vI x3, vI x4, vI x5, u6] [vI sx0, vI sx1] A =
    if 0 < (w32 (sx1 - sx0)) then
      go true 0 S SN pb_X12_noiseAt (n + 0) 99 [vR 21 190 0, vI x1, vI x2, vI (w32 (x3 + (w32 (sx1 - sx0)))), vI x4, vI x5, vI (w32 (sx1 - sx0))] [] A
    else
    go true 0 S SN pb_X12_noiseAt (n + 0) 99 [vR 21 190 0, vI x1, vI x2, vI x3, vI x4, vI x5, vI (w32 (sx1 - sx0))] [] A := rfl

set_option maxRecDepth 100000 in
theorem q_X12_noiseAt_99 (S SN : SX) (n : Nat) (x1 : Int) (x2 : Int) (x3 : Int) (x4 : Int) (u5 : AV) (u6 : AV) (A : AH)  : go true 0 S SN pb_X12_noiseAt (n + 1) 99 [vR 21 190 0, vI x1, vI x2, vI x3, vI x4, u5, u6] [] A =
    go true 0 S SN pb_X12_noiseAt (n + 0) 5 [vR 21 190 0, vI x1, vI x2, vI x3, vI (w32 (x4 + 1)), u5, u6] [] A := rfl

set_option maxRecDepth 100000 in
theorem q_X12_told_0 (S SN : SX) (n : Nat) (x1 : Int) (x2 : Int) (A : AH)  : go true 0 S SN pb_X12_told (n + 1) 0 [vR 21 190 0, vI x1, vI x2, vU, vU] [] A =
    cI (S 203 [vR 21 190 0, vI x2] A) fun r2 A1 =>
    go true 0 S SN pb_X12_told (n + 0) 11 [vR 21 190 0, vI x1, vI x2, vU, vU] [] (wi A1 236 0 r2) := rfl

set_option maxRecDepth 100000 in
theorem q_X12_told_11 (S SN : SX) (n : Nat) (x1 : Int) (x2 : Int) (u3 : AV) (u4 : AV) (A : AH)  : go true 0 S SN pb_X12_told (n + 1) 11 [vR 21 190 0, vI x1, vI x2, u3, u4] [] A =
    cI (S 204 [vR 21 190 0, vI x2] A) fun r2 A1 =>
    go true 0 S SN pb_X12_told (n + 0) 22 [vR 21 190 0, vI x1, vI x2, u3, u4] [] (wi A1 236 1 r2) := rfl

set_option maxRecDepth 100000 in
theorem q_X12_told_22 (S SN : SX) (n : Nat) (x1 : Int) (x2 : Int) (u3 : AV) (u4 : AV) (A : AH)  : go true 0 S SN pb_X12_told (n + 1) 22 [vR 21 190 0, vI x1, vI x2, u3, u4] [] A =
    cI (S 207 [vR 21 190 0, vI x2] A) fun r2 A1 =>
    go true 0 S SN pb_X12_told (n + 0) 33 [vR 21 190 0, vI x1, vI x2, u3, u4] [] (wi A1 236 2 r2) := rfl

set_option maxRecDepth 100000 in
theorem q_X12_told_33 (S SN : SX) (n : Nat) (x1 : Int) (x2 : Int) (u3 : AV) (u4 : AV) (A : AH)  : go true 0 S SN pb_X12_told (n + 1) 33 [vR 21 190 0, vI x1, vI x2, u3, u4] [] A =
    cI (S 208 [vR 21 190 0, vI x2] A) fun r2 A1 =>
    go true 0 S SN pb_X12_told (n + 0) 44 [vR 21 190 0, vI x1, vI x2, u3, u4] [] (wi A1 236 3 r2) := rfl

set_option maxRecDepth 100000 in
theorem q_X12_told_44 (S SN : SX) (n : Nat) (x1 : Int) (x2 : Int) (u3 : AV) (u4 : AV) (A : AH)  : go true 0 S SN pb_X12_told (n + 1) 44 [vR 21 190 0, vI x1, vI x2, u3, u4] [] A =
    cI (S 209 [vR 21 190 0, vI x2] A) fun r2 A1 =>
    go true 0 S SN pb_X12_told (n + 0) 55 [vR 21 190 0, vI x1, vI x2, u3, u4] [] (wi A1 236 4 r2) := rfl

set_option maxRecDepth 100000 in
theorem q_X12_told_55 (S SN : SX) (n : Nat) (x1 : Int) (x2 : Int) (u3 : AV) (u4 : AV) (A : AH)  : go true 0 S SN pb_X12_told (n + 1) 55 [vR 21 190 0, vI x1, vI x2, u3, u4] [] A =
    cI (S 199 [vR 21 190 0, vI x2] A) fun r2 A1 =>
    cI (S 210 [vR 21 190 0, vI r2, vI (gi A1 237 0)] A1) fun r4 A3 =>
    go true 0 S SN pb_X12_told (n + 0) 76 [vR 21 190 0, vI x1, vI x2, u3, u4] [] (wi A3 236 5 r4) := rfl

set_option maxRecDepth 100000 in
theorem q_X12_told_76 (S SN : SX) (n : Nat) (x1 : Int) (x2 : Int) (u3 : AV) (u4 : AV) (A : AH)  : go true 0 S SN pb_X12_told (n + 1) 76 [vR 21 190 0, vI x1, vI x2, u3, u4] [] A =
    cI (S 199 [vR 21 190 0, vI x2] A) fun r2 A1 =>
    go true 0 S SN pb_X12_told (n + 0) 88 [vR 21 190 0, vI x1, vI x2, u3, u4] [] (wi A1 236 6 r2) := rfl

set_option maxRecDepth 100000 in
theorem q_X12_told_88 (S SN : SX) (n : Nat) (x1 : Int) (x2 : Int) (u3 : AV) (u4 : AV) (A : AH)  : go true 0 S SN pb_X12_told (n + 1) 88 [vR 21 190 0, vI x1, vI x2, u3, u4] [] A =
    go true 0 S SN pb_X12_told (n + 0) 101 [vR 21 190 0, vI x1, vI x2, u3, u4] [] (wi A 236 7 (gi A 237 0)) := rfl

set_option maxRecDepth 100000 in
theorem q_X12_told_101 (S SN : SX) (n : Nat) (x1 : Int) (x2 : Int) (u3 : AV) (u4 : AV) (A : AH)  : go true 0 S SN pb_X12_told (n + 1) 101 [vR 21 190 0, vI x1, vI x2, u3, u4] [] A =
    if (0 : Int) ≤ w32 (2 + x1) ∧ w32 (2 + x1) < 4 then
      go true 0 S SN pb_X12_told (n + 0) 115 [vR 21 190 0, vI x1, vI x2, vI (gi (wi A 190 61 0) 231 ((w32 (2 + x1)).toNat)), u4] [] (wi A 190 61 0)
    else none := rfl

set_option maxRecDepth 100000 in
theorem q_X12_told_115 (S SN : SX) (n : Nat) (x1 : Int) (x2 : Int) (x3 : Int) (u4 : AV) (A : AH)  : go true 0 S SN pb_X12_told (n + 3) 115 [vR 21 190 0, vI x1, vI x2, vI x3, u4] [] A =
    if (0 : Int) ≤ w32 (2 + x1) ∧ w32 (2 + x1) < 4 then
      if x3 < (gi A 232 ((w32 (2 + x1)).toNat)) then
        if (0 : Int) ≤ w32 (1600 + x3) ∧ w32 (1600 + x3) < 3200 then
          if (gi A 233 ((w32 (1600 + x3)).toNat)) < 1000 then
            cI (S 149 [vL (gi A 233 ((w32 (1600 + x3)).toNat)), vL 7, vL 14] A) fun r3 A2 =>
            if r3 = 0 then
              go true 0 S SN pb_X12_told (n + 1) 194 [vR 21 190 0, vI x1, vI x2, vI x3, vI (gi A 233 ((w32 (1600 + x3)).toNat))] [] A2
            else
            if (0 : Int) ≤ w32 ((gi A 233 ((w32 (1600 + x3)).toNat)) - 7) ∧ w32 ((gi A 233 ((w32 (1600 + x3)).toNat)) - 7) < 8 then
              cV (S 192 [vR 21 190 0, vL (gi A2 236 ((w32 ((gi A 233 ((w32 (1600 + x3)).toNat)) - 7)).toNat))] A2) fun A4 =>
              go true 0 S SN pb_X12_told (n + 1) 200 [vR 21 190 0, vI x1, vI x2, vI x3, vI (gi A 233 ((w32 (1600 + x3)).toNat))] [] A4
            else none
          else
          cV (S 192 [vR 21 190 0, vL (w32 ((gi A 233 ((w32 (1600 + x3)).toNat)) - 1000))] A) fun A1 =>
          go true 0 S SN pb_X12_told (n + 2) 158 [vR 21 190 0, vI x1, vI x2, vI x3, vI (gi A 233 ((w32 (1600 + x3)).toNat))] [] A1
        else none
      else
      if (lcp (gi A 235 0) 0) < 0 then
        some (some (vI 0), A)
      else
      go true 0 S SN pb_X12_told (n + 1) 221 [vR 21 190 0, vI x1, vI x2, vI x3, u4] [] A
    else none := rfl

set_option maxRecDepth 100000 in
theorem q_X12_told_158 (S SN : SX) (n : Nat) (x1 : Int) (x2 : Int) (x3 : Int) (x4 : Int) (A : AH)  : go true 0 S SN pb_X12_told (n + 1) 158 [vR 21 190 0, vI x1, vI x2, vI x3, vI x4] [] A =
    go true 0 S SN pb_X12_told (n + 0) 200 [vR 21 190 0, vI x1, vI x2, vI x3, vI x4] [] A := rfl

set_option maxRecDepth 100000 in
theorem q_X12_told_194 (S SN : SX) (n : Nat) (x1 : Int) (x2 : Int) (x3 : Int) (x4 : Int) (A : AH)  : go true 0 S SN pb_X12_told (n + 1) 194 [vR 21 190 0, vI x1, vI x2, vI x3, vI x4] [] A =
    cV (S 193 [vR 21 190 0, vI x4] A) fun A1 =>
    go true 0 S SN pb_X12_told (n + 0) 200 [vR 21 190 0, vI x1, vI x2, vI x3, vI x4] [] A1 := rfl

set_option maxRecDepth 100000 in
theorem q_X12_told_200 (S SN : SX) (n : Nat) (x1 : Int) (x2 : Int) (x3 : Int) (x4 : Int) (A : AH)  : go true 0 S SN pb_X12_told (n + 1) 200 [vR 21 190 0, vI x1, vI x2, vI x3, vI x4] [] A =
    go true 0 S SN pb_X12_told (n + 0) 115 [vR 21 190 0, vI x1, vI x2, vI (w32 (x3 + 1)), vI x4] [] A := rfl

set_option maxRecDepth 100000 in
theorem q_X12_told_221 (S SN : SX) (n : Nat) (x1 : Int) (x2 : Int) (x3 : Int) (u4 : AV) (A : AH)  : go true 0 S SN pb_X12_told (n + 3) 221 [vR 21 190 0, vI x1, vI x2, vI x3, u4] [] A =
    if 0 < (lcp (gi A 235 0) 999) then
      some (some (vI 999), A)
    else
    some (some (vI (w32 (gi A 235 0))), A) := rfl

set_option maxRecDepth 100000 in
theorem q_X12_weightOf_0 (S SN : SX) (n : Nat) (x1 : Int) (A : AH)  : go true 0 S SN pb_X12_weightOf (n + 3) 0 [vR 21 190 0, vI x1] [] A =
    if (gi A 231 2) = (-1) then
      cI (S 203 [vR 21 190 0, vI x1] A) fun r2 A1 =>
      some (some (vI r2), A1)
    else
    cI (S 211 [vR 21 190 0, vI 0, vI x1] A) fun r4 A3 =>
    some (some (vI r4), A3) := rfl

set_option maxRecDepth 100000 in
theorem q_X12_coughOf_0 (S SN : SX) (n : Nat) (x1 : Int) (A : AH)  : go true 0 S SN pb_X12_coughOf (n + 3) 0 [vR 21 190 0, vI x1] [] A =
    if (gi A 231 3) = (-1) then
      some (some (vI 5), A)
    else
    cI (S 211 [vR 21 190 0, vI 1, vI x1] A) fun r2 A1 =>
    some (some (vI r2), A1) := rfl

set_option maxRecDepth 100000 in
theorem q_X12_signOf_0 (S SN : SX) (n : Nat) (x1 : Int) (A : AH)  : go true 0 S SN pb_X12_signOf (n + 4) 0 [vR 21 190 0, vI x1, vU] [] A =
    cI (S 205 [vR 21 190 0, vI x1] A) fun r2 A1 =>
    if r2 = 0 then
      some (some (vI 1), A1)
    else
    if r2 = 1 then
      some (some (vI (-1)), A1)
    else
    some (some (vI 0), A1) := rfl

set_option maxRecDepth 100000 in
theorem q_X12_moves_0 (S SN : SX) (n : Nat) (x1 : Int) (x2 : Int) (A : AH)  : go true 0 S SN pb_X12_moves (n + 3) 0 [vR 21 190 0, vI x1, vI x2] [] A =
    cI (S 214 [vR 21 190 0, vI x1] A) fun r2 A1 =>
    if x2 = 0 then
      cI (S 212 [vR 21 190 0, vI x1] A1) fun r6 A5 =>
      some (some (vI (w32 (r2 * r6))), A5)
    else
    cI (S 213 [vR 21 190 0, vI x1] A1) fun r4 A3 =>
    some (some (vI (w32 (r2 * (w32 (-r4))))), A3) := rfl

set_option maxRecDepth 100000 in
theorem q_X12_hiredMany_0 (S SN : SX) (n : Nat)  (A : AH)  : go true 0 S SN pb_X12_hiredMany (n + 1) 0 [vR 21 190 0, vU, vU] [] A =
    go true 0 S SN pb_X12_hiredMany (n + 0) 4 [vR 21 190 0, vI 0, vI 0] [] A := rfl

set_option maxRecDepth 100000 in
theorem q_X12_hiredMany_4 (S SN : SX) (n : Nat) (x1 : Int) (x2 : Int) (A : AH)  : go true 0 S SN pb_X12_hiredMany (n + 2) 4 [vR 21 190 0, vI x1, vI x2] [] A =
    cI (S 196 [vR 21 190 0] A) fun r2 A1 =>
    if x2 < r2 then
      cI (S 200 [vR 21 190 0, vI (w32 (10 + x2))] A1) fun r4 A3 =>
      if r4 = 0 then
        go true 0 S SN pb_X12_hiredMany (n + 1) 26 [vR 21 190 0, vI x1, vI x2] [] A3
      else
      go true 0 S SN pb_X12_hiredMany (n + 1) 26 [vR 21 190 0, vI (w32 (x1 + 1)), vI x2] [] A3
    else
    some (some (vI x1), A1) := rfl

set_option maxRecDepth 100000 in
theorem q_X12_hiredMany_26 (S SN : SX) (n : Nat) (x1 : Int) (x2 : Int) (A : AH)  : go true 0 S SN pb_X12_hiredMany (n + 1) 26 [vR 21 190 0, vI x1, vI x2] [] A =
    go true 0 S SN pb_X12_hiredMany (n + 0) 4 [vR 21 190 0, vI x1, vI (w32 (x2 + 1))] [] A := rfl

set_option maxRecDepth 100000 in
theorem q_X12_has_0 (S SN : SX) (n : Nat) (x1 : Int) (A : AH)  : go true 0 S SN pb_X12_has (n + 2) 0 [vR 21 190 0, vI x1] [] A =
    if x1 = 0 then
      cI (S 194 [vR 21 190 0] A) fun r2 A1 =>
      some (some (vI r2), A1)
    else
    if x1 = 1 then
      cI (S 195 [vR 21 190 0] A) fun r4 A3 =>
      some (some (vI r4), A3)
    else
    if x1 = 2 then
      cI (S 197 [vR 21 190 0] A) fun r6 A5 =>
      some (some (vI r6), A5)
    else
    if x1 = 3 then
      some (some (vI (gi A 224 9)), A)
    else
    if x1 = 4 then
      cI (S 196 [vR 21 190 0] A) fun r8 A7 =>
      some (some (vI r8), A7)
    else
    if x1 = 5 then
      cI (S 216 [vR 21 190 0] A) fun r10 A9 =>
      some (some (vI r10), A9)
    else
    if x1 = 6 then
      some (some (vI (gi A 237 0)), A)
    else
    if x1 = 7 then
      some (some (vI (gi A 237 2)), A)
    else
    if x1 = 8 then
      some (some (vI (gi A 224 10)), A)
    else
    if x1 = 9 then
      some (some (vI (gi A 237 25)), A)
    else
    if x1 = 10 then
      some (some (vI (gi A 190 73)), A)
    else
    some (some (vI (-1)), A) := rfl

set_option maxRecDepth 100000 in
theorem q_X12_scale_0 (S SN : SX) (n : Nat)  (A : AH)  : go true 0 S SN pb_X12_scale (n + 1) 0 [vR 21 190 0] [] A =
    some (some (vI (gi A 237 1)), A) := rfl

set_option maxRecDepth 100000 in
theorem q_X12_letter_0 (S SN : SX) (n : Nat) (x1 : Int) (x2 : Int) (x3 : Int) (A : AH)  : go true 0 S SN pb_X12_letter (n + 2) 0 [vR 21 190 0, vI x1, vI x2, vI x3, vU, vU, vU, vU, vU] [] A =
    cI (S 149 [vL x1, vL 0, vL 2] A) fun r2 A1 =>
    if r2 = 0 then
      some (some (vI (-1)), A1)
    else
    if (0 : Int) ≤ w32 (6 + x1) ∧ w32 (6 + x1) < 12 then
      cI (S 149 [vL x2, vL 0, vL (w32 ((gi A1 224 ((w32 (6 + x1)).toNat)) - 1))] A1) fun r4 A3 =>
      if r4 = 0 then
        some (some (vI (-1)), A3)
      else
      cI (S 149 [vL x3, vL 0, vL 5] A3) fun r6 A5 =>
      if r6 = 0 then
        some (some (vI (-1)), A5)
      else
      go true 0 S SN pb_X12_letter (n + 1) 47 [vR 21 190 0, vI x1, vI x2, vI x3, vU, vU, vU, vU, vU] [] A5
    else none := rfl

set_option maxRecDepth 100000 in
theorem q_X12_letter_47 (S SN : SX) (n : Nat) (x1 : Int) (x2 : Int) (x3 : Int) (u4 : AV) (u5 : AV) (u6 : AV) (u7 : AV) (u8 : AV) (A : AH)  : go true 0 S SN pb_X12_letter (n + 1) 47 [vR 21 190 0, vI x1, vI x2, vI x3, u4, u5, u6, u7, u8] [] A =
    if (0 : Int) ≤ w32 ((w32 (24 + (w32 (8 * x1)))) + x2) ∧ w32 ((w32 (24 + (w32 (8 * x1)))) + x2) < 48 then
      go true 0 S SN pb_X12_letter (n + 0) 70 [vR 21 190 0, vI x1, vI x2, vI x3, vL (gi A 225 ((w32 ((w32 (24 + (w32 (8 * x1)))) + x2)).toNat)), vS, vI 0, vL (gi A 225 ((w32 ((w32 (24 + (w32 (8 * x1)))) + x2)).toNat)), vS] [] A
    else none := rfl

set_option maxRecDepth 100000 in
theorem q_X12_letter_70 (S SN : SX) (n : Nat) (x1 : Int) (x2 : Int) (x3 : Int) (y4 : Int) (x6 : Int) (y7 : Int) (A : AH)  : go true 0 S SN pb_X12_letter (n + 3) 70 [vR 21 190 0, vI x1, vI x2, vI x3, vL y4, vS, vI x6, vL y7, vS] [] A =
    if 0 < (lcp y7 0) then
      go true 0 S SN pb_X12_letter (n + 2) 70 [vR 21 190 0, vI x1, vI x2, vI x3, vL y4, vS, vI (w32 (x6 + 1)), vL (w64 (y7.tdiv 27)), vS] [] A
    else
    if x3 < x6 then
      go true 0 S SN pb_X12_letter (n + 0) 105 [vR 21 190 0, vI x1, vI x2, vI x3, vL y4, vS, vI x6, vI (w32 (x6 - 1)), vS] [] A
    else
    some (some (vI 0), A) := rfl

set_option maxRecDepth 100000 in
theorem q_X12_letter_105 (S SN : SX) (n : Nat) (x1 : Int) (x2 : Int) (x3 : Int) (y4 : Int) (x6 : Int) (x7 : Int) (A : AH)  : go true 0 S SN pb_X12_letter (n + 2) 105 [vR 21 190 0, vI x1, vI x2, vI x3, vL y4, vS, vI x6, vI x7, vS] [] A =
    if x3 < x7 then
      go true 0 S SN pb_X12_letter (n + 1) 105 [vR 21 190 0, vI x1, vI x2, vI x3, vL (w64 (y4.tdiv 27)), vS, vI x6, vI (w32 (x7 + (-1))), vS] [] A
    else
    some (some (vI (w32 (y4.tmod 27))), A) := rfl

set_option maxRecDepth 100000 in
theorem q_X12_sits_0 (S SN : SX) (n : Nat) (x1 : Int) (x2 : Int) (A : AH)  : go true 0 S SN pb_X12_sits (n + 3) 0 [vR 21 190 0, vI x1, vI x2] [] A =
    cI (S 149 [vL x1, vL 0, vL 15] A) fun r2 A1 =>
    if r2 = 0 then
      some (some (vI (-1)), A1)
    else
    cI (S 200 [vR 21 190 0, vI x1] A1) fun r4 A3 =>
    if r4 = 0 then
      some (some (vI (-1)), A3)
    else
    if x2 = 0 then
      cI (S 199 [vR 21 190 0, vI x1] A3) fun r6 A5 =>
      some (some (vI r6), A5)
    else
    if x2 = 1 then
      cI (S 205 [vR 21 190 0, vI x1] A3) fun r8 A7 =>
      some (some (vI r8), A7)
    else
    if x2 = 2 then
      cI (S 203 [vR 21 190 0, vI x1] A3) fun r10 A9 =>
      some (some (vI r10), A9)
    else
    if x2 = 3 then
      cI (S 204 [vR 21 190 0, vI x1] A3) fun r12 A11 =>
      some (some (vI r12), A11)
    else
    if x2 = 4 then
      cI (S 207 [vR 21 190 0, vI x1] A3) fun r14 A13 =>
      some (some (vI r14), A13)
    else
    if x2 = 5 then
      cI (S 208 [vR 21 190 0, vI x1] A3) fun r16 A15 =>
      some (some (vI r16), A15)
    else
    if x2 = 6 then
      cI (S 212 [vR 21 190 0, vI x1] A3) fun r18 A17 =>
      some (some (vI r18), A17)
    else
    if x2 = 7 then
      cI (S 213 [vR 21 190 0, vI x1] A3) fun r20 A19 =>
      some (some (vI r20), A19)
    else
    some (some (vI (-1)), A3) := rfl

set_option maxRecDepth 100000 in
theorem q_X12_seat_0 (S SN : SX) (n : Nat) (x1 : Int) (A : AH)  : go true 0 S SN pb_X12_seat (n + 3) 0 [vR 21 190 0, vI x1] [] A =
    cI (S 198 [vR 21 190 0, vI x1] A) fun r2 A1 =>
    if r2 = 0 then
      some (some (vI (-1)), A1)
    else
    cI (S 201 [vR 21 190 0, vI x1] A1) fun r4 A3 =>
    some (some (vI r4), A3) := rfl

set_option maxRecDepth 100000 in
theorem q_X12_mute_0 (S SN : SX) (n : Nat) (x1 : Int) (x2 : Int) (A : AH)  : go true 0 S SN pb_X12_mute (n + 5) 0 [vR 21 190 0, vI x1, vI x2] [] A =
    cI (S 196 [vR 21 190 0] A) fun r2 A1 =>
    cI (S 149 [vL x1, vL 0, vL (w32 (r2 - 1))] A1) fun r4 A3 =>
    if r4 = 0 then some (some (vI (-1)), A3) else
    if x2 = 0 then
      go true 0 S SN pb_X12_mute (n + 3) 27 [vR 21 190 0, vI x1, vI x2] [] A3
    else
    if x2 = 1 then
      go true 0 S SN pb_X12_mute (n + 3) 27 [vR 21 190 0, vI x1, vI x2] [] A3
    else
    if x2 = 2 then
      cI (S 200 [vR 21 190 0, vI (w32 (10 + x1))] A3) fun r6 A5 =>
      if r6 = 0 then
        some (some (vI 0), A5)
      else
      some (some (vI 1), A5)
    else
    some (some (vI (-1)), A3) := rfl

set_option maxRecDepth 100000 in
theorem q_X12_mute_27 (S SN : SX) (n : Nat) (x1 : Int) (x2 : Int) (A : AH)  : go true 0 S SN pb_X12_mute (n + 2) 27 [vR 21 190 0, vI x1, vI x2] [] A =
    if (0 : Int) ≤ w32 ((w32 (12 + (w32 (2 * x1)))) + x2) ∧ w32 ((w32 (12 + (w32 (2 * x1)))) + x2) < 24 then
      some (some (vI (gi A 227 ((w32 ((w32 (12 + (w32 (2 * x1)))) + x2)).toNat))), A)
    else none := rfl

set_option maxRecDepth 100000 in
theorem q_X12_noise_0 (S SN : SX) (n : Nat) (x1 : Int) (x2 : Int) (A : AH)  : go true 0 S SN pb_X12_noise (n + 2) 0 [vR 21 190 0, vI x1, vI x2] [] A =
    cI (S 198 [vR 21 190 0, vI x1] A) fun r2 A1 =>
    if r2 = 0 then
      go true 0 S SN pb_X12_noise (n + 1) 29 [vR 21 190 0, vI x1, vI x2] [] A1
    else
    cI (S 149 [vL x2, vL 0, vL 999] A1) fun r4 A3 =>
    if r4 = 0 then
      go true 0 S SN pb_X12_noise (n + 1) 29 [vR 21 190 0, vI x1, vI x2] [] A3
    else
    cI (S 210 [vR 21 190 0, vI x1, vI x2] A3) fun r6 A5 =>
    some (some (vI r6), A5) := rfl

set_option maxRecDepth 100000 in
theorem q_X12_noise_29 (S SN : SX) (n : Nat) (x1 : Int) (x2 : Int) (A : AH)  : go true 0 S SN pb_X12_noise (n + 2) 29 [vR 21 190 0, vI x1, vI x2] [] A =
    some (some (vI (-1)), A) := rfl

set_option maxRecDepth 100000 in
theorem q_X12_kept_0 (S SN : SX) (n : Nat) (x1 : Int) (x2 : Int) (A : AH)  : go true 0 S SN pb_X12_kept (n + 2) 0 [vR 21 190 0, vI x1, vI x2] [] A =
    cI (S 149 [vL x1, vL 0, vL (w32 ((gi A 237 25) - 1))] A) fun r2 A1 =>
    if r2 = 0 then
      go true 0 S SN pb_X12_kept (n + 1) 47 [vR 21 190 0, vI x1, vI x2] [] A1
    else
    cI (S 149 [vL x2, vL 0, vL 2] A1) fun r4 A3 =>
    if r4 = 0 then
      go true 0 S SN pb_X12_kept (n + 1) 47 [vR 21 190 0, vI x1, vI x2] [] A3
    else
    if (0 : Int) ≤ w32 ((w32 (26 + (w32 (3 * x1)))) + x2) ∧ w32 ((w32 (26 + (w32 (3 * x1)))) + x2) < 146 then
      some (some (vI (gi A3 237 ((w32 ((w32 (26 + (w32 (3 * x1)))) + x2)).toNat))), A3)
    else none := rfl

set_option maxRecDepth 100000 in
theorem q_X12_kept_47 (S SN : SX) (n : Nat) (x1 : Int) (x2 : Int) (A : AH)  : go true 0 S SN pb_X12_kept (n + 2) 47 [vR 21 190 0, vI x1, vI x2] [] A =
    some (some (vI (-1)), A) := rfl

set_option maxRecDepth 100000 in
theorem q_X12_putsAside_0 (S SN : SX) (n : Nat)  (A : AH)  : go true 3 S SN pb_X12_putsAside (n + 1) 0 [vR 21 190 0, vU] [] A =
    go true 3 S SN pb_X12_putsAside (n + 0) 2 [vR 21 190 0, vI 0] [] A := rfl

set_option maxRecDepth 100000 in
theorem q_X12_putsAside_2 (S SN : SX) (n : Nat) (x1 : Int) (A : AH)  : go true 3 S SN pb_X12_putsAside (n + 2) 2 [vR 21 190 0, vI x1] [] A =
    if x1 < 146 then
      if (0 : Int) ≤ x1 ∧ x1 < 146 then
        if (0 : Int) ≤ x1 ∧ x1 < 146 then
          go true 3 S SN pb_X12_putsAside (n + 1) 21 [vR 21 190 0, vI x1] [] (wi A 238 x1.toNat (gi A 237 x1.toNat))
        else none
      else none
    else
    some (none, A) := rfl

set_option maxRecDepth 100000 in
theorem q_X12_putsAside_21 (S SN : SX) (n : Nat) (x1 : Int) (A : AH)  : go true 3 S SN pb_X12_putsAside (n + 1) 21 [vR 21 190 0, vI x1] [] A =
    go true 3 S SN pb_X12_putsAside (n + 0) 2 [vR 21 190 0, vI (w32 (x1 + 1))] [] A := rfl

set_option maxRecDepth 100000 in
theorem q_X12_takesBack_0 (S SN : SX) (n : Nat)  (A : AH)  : go true 3 S SN pb_X12_takesBack (n + 1) 0 [vR 21 190 0, vU] [] A =
    go true 3 S SN pb_X12_takesBack (n + 0) 2 [vR 21 190 0, vI 0] [] A := rfl

set_option maxRecDepth 100000 in
theorem q_X12_takesBack_2 (S SN : SX) (n : Nat) (x1 : Int) (A : AH)  : go true 3 S SN pb_X12_takesBack (n + 2) 2 [vR 21 190 0, vI x1] [] A =
    if x1 < 146 then
      if (0 : Int) ≤ x1 ∧ x1 < 146 then
        if (0 : Int) ≤ x1 ∧ x1 < 146 then
          go true 3 S SN pb_X12_takesBack (n + 1) 21 [vR 21 190 0, vI x1] [] (wi A 237 x1.toNat (gi A 238 x1.toNat))
        else none
      else none
    else
    some (none, A) := rfl

set_option maxRecDepth 100000 in
theorem q_X12_takesBack_21 (S SN : SX) (n : Nat) (x1 : Int) (A : AH)  : go true 3 S SN pb_X12_takesBack (n + 1) 21 [vR 21 190 0, vI x1] [] A =
    go true 3 S SN pb_X12_takesBack (n + 0) 2 [vR 21 190 0, vI (w32 (x1 + 1))] [] A := rfl

set_option maxRecDepth 100000 in
theorem q_X12_meanMove_0 (S SN : SX) (n : Nat)  (A : AH)  : go true 1 S SN pb_X12_meanMove (n + 1) 0 [vR 21 190 0, vU, vU, vU] [] A =
    go true 1 S SN pb_X12_meanMove (n + 0) 4 [vR 21 190 0, vL 0, vS, vI 0] [] A := rfl

set_option maxRecDepth 100000 in
theorem q_X12_meanMove_4 (S SN : SX) (n : Nat) (y1 : Int) (x3 : Int) (A : AH)  : go true 1 S SN pb_X12_meanMove (n + 2) 4 [vR 21 190 0, vL y1, vS, vI x3] [] A =
    if x3 < 16 then
      cI (S 200 [vR 21 190 0, vI x3] A) fun r2 A1 =>
      if r2 = 0 then
        go true 1 S SN pb_X12_meanMove (n + 1) 50 [vR 21 190 0, vL y1, vS, vI x3] [] A1
      else
      cI (S 204 [vR 21 190 0, vI x3] A1) fun r4 A3 =>
      cI (S 215 [vR 21 190 0, vI x3, vI 0] A3) fun r6 A5 =>
      cI (S 204 [vR 21 190 0, vI x3] A5) fun r8 A7 =>
      cI (S 215 [vR 21 190 0, vI x3, vI 1] A7) fun r10 A9 =>
      go true 1 S SN pb_X12_meanMove (n + 1) 50 [vR 21 190 0, vL (w64 (y1 + (w32 ((w32 ((w32 (100 - r4)) * r6)) + (w32 (r8 * r10)))))), vS, vI x3] [] A9
    else
    some (some (vL y1), A) := rfl

set_option maxRecDepth 100000 in
theorem q_X12_meanMove_50 (S SN : SX) (n : Nat) (y1 : Int) (x3 : Int) (A : AH)  : go true 1 S SN pb_X12_meanMove (n + 1) 50 [vR 21 190 0, vL y1, vS, vI x3] [] A =
    go true 1 S SN pb_X12_meanMove (n + 0) 4 [vR 21 190 0, vL y1, vS, vI (w32 (x3 + 1))] [] A := rfl

set_option maxRecDepth 100000 in
theorem q_X12_meanOf_0 (S SN : SX) (n : Nat) (x1 : Int) (A : AH)  : go true 1 S SN pb_X12_meanOf (n + 1) 0 [vR 21 190 0, vI x1, vU, vU, vU, vU] [] A =
    go true 1 S SN pb_X12_meanOf (n + 0) 22 [vR 21 190 0, vI x1, vI (gi A 237 0), vL (w64 (100 * (gi A 237 1))), vS, vI 0] [] A := rfl

set_option maxRecDepth 100000 in
theorem q_X12_meanOf_22 (S SN : SX) (n : Nat) (x1 : Int) (x2 : Int) (y3 : Int) (x5 : Int) (A : AH)  : go true 1 S SN pb_X12_meanOf (n + 2) 22 [vR 21 190 0, vI x1, vI x2, vL y3, vS, vI x5] [] A =
    if x5 < x1 then
      cL (S 227 [vR 21 190 0] A) fun r2 A1 =>
      go true 1 S SN pb_X12_meanOf (n + 1) 45 [vR 21 190 0, vI x1, vI x2, vL (w64 (y3 + r2)), vS, vI x5] [] (wi A1 237 0 (w32 ((gi A1 237 0) + 1)))
    else
    some (some (vL y3), wi A 237 0 x2) := rfl

set_option maxRecDepth 100000 in
theorem q_X12_meanOf_45 (S SN : SX) (n : Nat) (x1 : Int) (x2 : Int) (y3 : Int) (x5 : Int) (A : AH)  : go true 1 S SN pb_X12_meanOf (n + 1) 45 [vR 21 190 0, vI x1, vI x2, vL y3, vS, vI x5] [] A =
    go true 1 S SN pb_X12_meanOf (n + 0) 22 [vR 21 190 0, vI x1, vI x2, vL y3, vS, vI (w32 (x5 + 1))] [] A := rfl

set_option maxRecDepth 100000 in
theorem q_X12_isAhead_0 (S SN : SX) (n : Nat) (x1 : Int) (x2 : Int) (x3 : Int) (A : AH)  : go true 2 S SN pb_X12_isAhead (n + 2) 0 [vR 21 190 0, vI x1, vI x2, vI x3] [] A =
    cI (S 149 [vL x1, vL x2, vL x3] A) fun r2 A1 =>
    if r2 = 0 then
      go true 2 S SN pb_X12_isAhead (n + 1) 30 [vR 21 190 0, vI x1, vI x2, vI x3] [] A1
    else
    if 999 < (w32 ((gi A1 237 0) + x1)) then
      go true 2 S SN pb_X12_isAhead (n + 1) 30 [vR 21 190 0, vI x1, vI x2, vI x3] [] A1
    else
    some (some (vI 1), A1) := rfl

set_option maxRecDepth 100000 in
theorem q_X12_isAhead_30 (S SN : SX) (n : Nat) (x1 : Int) (x2 : Int) (x3 : Int) (A : AH)  : go true 2 S SN pb_X12_isAhead (n + 2) 30 [vR 21 190 0, vI x1, vI x2, vI x3] [] A =
    some (some (vI 0), A) := rfl

set_option maxRecDepth 100000 in
theorem q_X12_mean_0 (S SN : SX) (n : Nat) (x1 : Int) (A : AH)  : go true 1 S SN pb_X12_mean (n + 3) 0 [vR 21 190 0, vI x1] [] A =
    cI (S 229 [vR 21 190 0, vI x1, vI 0, vI 200] A) fun r2 A1 =>
    if r2 = 0 then
      some (some (vL (-1000000000000000)), A1)
    else
    cL (S 228 [vR 21 190 0, vI x1] A1) fun r4 A3 =>
    some (some (vL r4), A3) := rfl

set_option maxRecDepth 100000 in
theorem q_X12_laysItchers_0 (S SN : SX) (n : Nat)  (A : AH)  : go true 3 S SN pb_X12_laysItchers (n + 1) 0 [vR 21 190 0, vU] [] A =
    go true 3 S SN pb_X12_laysItchers (n + 0) 10 [vR 21 190 0, vU] [] (wi (wi A 190 69 0) 190 70 0) := rfl

set_option maxRecDepth 100000 in
theorem q_X12_laysItchers_10 (S SN : SX) (n : Nat) (u1 : AV) (A : AH)  : go true 3 S SN pb_X12_laysItchers (n + 1) 10 [vR 21 190 0, u1] [] A =
    go true 3 S SN pb_X12_laysItchers (n + 0) 12 [vR 21 190 0, vI 0] [] A := rfl

set_option maxRecDepth 100000 in
theorem q_X12_laysItchers_12 (S SN : SX) (n : Nat) (x1 : Int) (A : AH)  : go true 3 S SN pb_X12_laysItchers (n + 3) 12 [vR 21 190 0, vI x1] [] A =
    if x1 < 16 then
      cI (S 200 [vR 21 190 0, vI x1] A) fun r2 A1 =>
      if r2 = 0 then
        go true 3 S SN pb_X12_laysItchers (n + 2) 105 [vR 21 190 0, vI x1] [] A1
      else
      cI (S 204 [vR 21 190 0, vI x1] A1) fun r4 A3 =>
      if r4 = 0 then
        cI (S 215 [vR 21 190 0, vI x1, vI 0] A3) fun r6 A5 =>
        go true 3 S SN pb_X12_laysItchers (n + 1) 52 [vR 21 190 0, vI x1] [] (wi A5 190 70 (w32 ((gi A3 190 70) + r6)))
      else
      if (0 : Int) ≤ gi A3 190 69 ∧ gi A3 190 69 < 8 then
        go true 3 S SN pb_X12_laysItchers (n + 0) 65 [vR 21 190 0, vI x1] [] (wi A3 239 ((gi A3 190 69).toNat) x1)
      else none
    else
    some (none, A) := rfl

set_option maxRecDepth 100000 in
theorem q_X12_laysItchers_52 (S SN : SX) (n : Nat) (x1 : Int) (A : AH)  : go true 3 S SN pb_X12_laysItchers (n + 1) 52 [vR 21 190 0, vI x1] [] A =
    go true 3 S SN pb_X12_laysItchers (n + 0) 105 [vR 21 190 0, vI x1] [] A := rfl

set_option maxRecDepth 100000 in
theorem q_X12_laysItchers_65 (S SN : SX) (n : Nat) (x1 : Int) (A : AH)  : go true 3 S SN pb_X12_laysItchers (n + 1) 65 [vR 21 190 0, vI x1] [] A =
    cI (S 215 [vR 21 190 0, vI x1, vI 0] A) fun r2 A1 =>
    if (0 : Int) ≤ gi A 190 69 ∧ gi A 190 69 < 8 then
      go true 3 S SN pb_X12_laysItchers (n + 0) 80 [vR 21 190 0, vI x1] [] (wi A1 240 ((gi A 190 69).toNat) r2)
    else none := rfl

set_option maxRecDepth 100000 in
theorem q_X12_laysItchers_80 (S SN : SX) (n : Nat) (x1 : Int) (A : AH)  : go true 3 S SN pb_X12_laysItchers (n + 1) 80 [vR 21 190 0, vI x1] [] A =
    cI (S 215 [vR 21 190 0, vI x1, vI 1] A) fun r2 A1 =>
    if (0 : Int) ≤ gi A 190 69 ∧ gi A 190 69 < 8 then
      go true 3 S SN pb_X12_laysItchers (n + 0) 95 [vR 21 190 0, vI x1] [] (wi A1 241 ((gi A 190 69).toNat) r2)
    else none := rfl

set_option maxRecDepth 100000 in
theorem q_X12_laysItchers_95 (S SN : SX) (n : Nat) (x1 : Int) (A : AH)  : go true 3 S SN pb_X12_laysItchers (n + 1) 95 [vR 21 190 0, vI x1] [] A =
    go true 3 S SN pb_X12_laysItchers (n + 0) 105 [vR 21 190 0, vI x1] [] (wi A 190 69 (w32 ((gi A 190 69) + 1))) := rfl

set_option maxRecDepth 100000 in
theorem q_X12_laysItchers_105 (S SN : SX) (n : Nat) (x1 : Int) (A : AH)  : go true 3 S SN pb_X12_laysItchers (n + 1) 105 [vR 21 190 0, vI x1] [] A =
    go true 3 S SN pb_X12_laysItchers (n + 0) 12 [vR 21 190 0, vI (w32 (x1 + 1))] [] A := rfl

set_option maxRecDepth 100000 in
theorem q_X12_movedBy_0 (S SN : SX) (n : Nat) (x1 : Int) (A : AH)  : go true 0 S SN pb_X12_movedBy (n + 1) 0 [vR 21 190 0, vI x1, vU, vU] [] A =
    go true 0 S SN pb_X12_movedBy (n + 0) 7 [vR 21 190 0, vI x1, vI (gi A 190 70), vI 0] [] A := rfl

set_option maxRecDepth 100000 in
theorem q_X12_movedBy_7 (S SN : SX) (n : Nat) (x1 : Int) (x2 : Int) (x3 : Int) (A : AH)  : go true 0 S SN pb_X12_movedBy (n + 2) 7 [vR 21 190 0, vI x1, vI x2, vI x3] [] A =
    if x3 < (gi A 190 69) then
      if (band (bshr x1 x3) 1) = 1 then
        if (0 : Int) ≤ x3 ∧ x3 < 8 then
          go true 0 S SN pb_X12_movedBy (n + 1) 40 [vR 21 190 0, vI x1, vI x2, vI x3] [vI (gi A 241 x3.toNat), vI x2] A
        else none
      else
      if (0 : Int) ≤ x3 ∧ x3 < 8 then
        go true 0 S SN pb_X12_movedBy (n + 0) 40 [vR 21 190 0, vI x1, vI x2, vI x3] [vI (gi A 240 x3.toNat), vI x2] A
      else none
    else
    some (some (vI x2), A) := rfl

set_option maxRecDepth 100000 in
theorem q_X12_movedBy_40 (S SN : SX) (n : Nat) (x1 : Int) (x2 : Int) (x3 : Int) (sx0 : Int) (sx1 : Int) (A : AH)  : go true 0 S SN pb_X12_movedBy (n + 1) 40 [vR 21 190 0, vI x1, vI x2, vI x3] [vI sx0, vI sx1] A =
    go true 0 S SN pb_X12_movedBy (n + 0) 7 [vR 21 190 0, vI x1, vI (w32 (sx1 + sx0)), vI (w32 (x3 + 1))] [] A := rfl

set_option maxRecDepth 100000 in
theorem q_X12_waysOf_0 (S SN : SX) (n : Nat) (x1 : Int) (A : AH)  : go true 1 S SN pb_X12_waysOf (n + 1) 0 [vR 21 190 0, vI x1, vU, vU, vU] [] A =
    go true 1 S SN pb_X12_waysOf (n + 0) 5 [vR 21 190 0, vI x1, vL 1, vS, vI 0] [] A := rfl

set_option maxRecDepth 100000 in
theorem q_X12_waysOf_5 (S SN : SX) (n : Nat) (x1 : Int) (y2 : Int) (x4 : Int) (A : AH)  : go true 1 S SN pb_X12_waysOf (n + 2) 5 [vR 21 190 0, vI x1, vL y2, vS, vI x4] [] A =
    if x4 < (gi A 190 69) then
      if (band (bshr x1 x4) 1) = 1 then
        if (0 : Int) ≤ x4 ∧ x4 < 8 then
          cI (S 204 [vR 21 190 0, vI (gi A 239 x4.toNat)] A) fun r2 A1 =>
          go true 1 S SN pb_X12_waysOf (n + 1) 55 [vR 21 190 0, vI x1, vL y2, vS, vI x4] [vL r2, vL y2] A1
        else none
      else
      if (0 : Int) ≤ x4 ∧ x4 < 8 then
        cI (S 204 [vR 21 190 0, vI (gi A 239 x4.toNat)] A) fun r4 A3 =>
        go true 1 S SN pb_X12_waysOf (n + 0) 55 [vR 21 190 0, vI x1, vL y2, vS, vI x4] [vL (w32 (100 - r4)), vL y2] A3
      else none
    else
    some (some (vL y2), A) := rfl

set_option maxRecDepth 100000 in
theorem q_X12_waysOf_55 (S SN : SX) (n : Nat) (x1 : Int) (y2 : Int) (x4 : Int) (sy0 : Int) (sy1 : Int) (A : AH)  : go true 1 S SN pb_X12_waysOf (n + 1) 55 [vR 21 190 0, vI x1, vL y2, vS, vI x4] [vL sy0, vL sy1] A =
    go true 1 S SN pb_X12_waysOf (n + 0) 5 [vR 21 190 0, vI x1, vL (w64 (sy1 * sy0)), vS, vI (w32 (x4 + 1))] [] A := rfl

set_option maxRecDepth 100000 in
theorem q_X12_odds_0 (S SN : SX) (n : Nat) (x1 : Int) (A : AH)  : go true 0 S SN pb_X12_odds (n + 2) 0 [vR 21 190 0, vI x1, vU, vU, vU, vU] [] A =
    cI (S 149 [vL x1, vL 0, vL 2] A) fun r2 A1 =>
    if r2 = 0 then some (some (vI (-1)), A1) else
    cV (S 231 [vR 21 190 0] A1) fun A3 =>
    go true 0 S SN pb_X12_odds (n + 0) 23 [vR 21 190 0, vI x1, vL 0, vS, vI 0, vU] [] A3 := rfl

set_option maxRecDepth 100000 in
theorem q_X12_odds_23 (S SN : SX) (n : Nat) (x1 : Int) (y2 : Int) (x4 : Int) (u5 : AV) (A : AH)  : go true 0 S SN pb_X12_odds (n + 3) 23 [vR 21 190 0, vI x1, vL y2, vS, vI x4, u5] [] A =
    if x4 < (bshl 1 (gi A 190 69)) then
      cI (S 232 [vR 21 190 0, vI x4] A) fun r2 A1 =>
      if 0 < r2 then
        go true 0 S SN pb_X12_odds (n + 2) 62 [vR 21 190 0, vI x1, vL y2, vS, vI x4, vI r2] [vI 0, vI x1] A1
      else
      if r2 < 0 then
        go true 0 S SN pb_X12_odds (n + 1) 62 [vR 21 190 0, vI x1, vL y2, vS, vI x4, vI r2] [vI 1, vI x1] A1
      else
      go true 0 S SN pb_X12_odds (n + 0) 62 [vR 21 190 0, vI x1, vL y2, vS, vI x4, vI r2] [vI 2, vI x1] A1
    else
    go true 0 S SN pb_X12_odds (n + 1) 86 [vR 21 190 0, vI x1, vL y2, vS, vI (gi A 190 69), u5] [] A := rfl

set_option maxRecDepth 100000 in
theorem q_X12_odds_62 (S SN : SX) (n : Nat) (x1 : Int) (y2 : Int) (x4 : Int) (x5 : Int) (sx0 : Int) (sx1 : Int) (A : AH)  : go true 0 S SN pb_X12_odds (n + 1) 62 [vR 21 190 0, vI x1, vL y2, vS, vI x4, vI x5] [vI sx0, vI sx1] A =
    if sx1 = sx0 then
      cL (S 233 [vR 21 190 0, vI x4] A) fun r2 A1 =>
      go true 0 S SN pb_X12_odds (n + 0) 74 [vR 21 190 0, vI x1, vL (w64 (y2 + r2)), vS, vI x4, vI x5] [] A1
    else
    go true 0 S SN pb_X12_odds (n + 0) 74 [vR 21 190 0, vI x1, vL y2, vS, vI x4, vI x5] [] A := rfl

set_option maxRecDepth 100000 in
theorem q_X12_odds_74 (S SN : SX) (n : Nat) (x1 : Int) (y2 : Int) (x4 : Int) (x5 : Int) (A : AH)  : go true 0 S SN pb_X12_odds (n + 1) 74 [vR 21 190 0, vI x1, vL y2, vS, vI x4, vI x5] [] A =
    go true 0 S SN pb_X12_odds (n + 0) 23 [vR 21 190 0, vI x1, vL y2, vS, vI (w32 (x4 + 1)), vI x5] [] A := rfl

set_option maxRecDepth 100000 in
theorem q_X12_odds_86 (S SN : SX) (n : Nat) (x1 : Int) (y2 : Int) (x4 : Int) (u5 : AV) (A : AH)  : go true 0 S SN pb_X12_odds (n + 2) 86 [vR 21 190 0, vI x1, vL y2, vS, vI x4, u5] [] A =
    if x4 < 3 then
      go true 0 S SN pb_X12_odds (n + 1) 86 [vR 21 190 0, vI x1, vL (w64 (y2 * 100)), vS, vI (w32 (x4 + 1)), u5] [] A
    else
    go true 0 S SN pb_X12_odds (n + 0) 107 [vR 21 190 0, vI x1, vL y2, vS, vI 3, u5] [] A := rfl

set_option maxRecDepth 100000 in
theorem q_X12_odds_107 (S SN : SX) (n : Nat) (x1 : Int) (y2 : Int) (x4 : Int) (u5 : AV) (A : AH)  : go true 0 S SN pb_X12_odds (n + 2) 107 [vR 21 190 0, vI x1, vL y2, vS, vI x4, u5] [] A =
    if x4 < (gi A 190 69) then
      go true 0 S SN pb_X12_odds (n + 1) 107 [vR 21 190 0, vI x1, vL (w64 (y2.tdiv 100)), vS, vI (w32 (x4 + 1)), u5] [] A
    else
    some (some (vI (w32 y2)), A) := rfl

set_option maxRecDepth 100000 in
theorem q_X12_freeSeat_0 (S SN : SX) (n : Nat)  (A : AH)  : go true 0 S SN pb_X12_freeSeat (n + 1) 0 [vR 21 190 0, vU] [] A =
    go true 0 S SN pb_X12_freeSeat (n + 0) 2 [vR 21 190 0, vI 0] [] A := rfl

set_option maxRecDepth 100000 in
theorem q_X12_freeSeat_2 (S SN : SX) (n : Nat) (x1 : Int) (A : AH)  : go true 0 S SN pb_X12_freeSeat (n + 2) 2 [vR 21 190 0, vI x1] [] A =
    cI (S 194 [vR 21 190 0] A) fun r2 A1 =>
    if x1 < r2 then
      cI (S 201 [vR 21 190 0, vI x1] A1) fun r4 A3 =>
      if r4 = (-1) then some (some (vI x1), A3) else
      go true 0 S SN pb_X12_freeSeat (n + 0) 2 [vR 21 190 0, vI (w32 (x1 + 1))] [] A3
    else
    some (some (vI (-1)), A1) := rfl

set_option maxRecDepth 100000 in
theorem q_X12_areSeated_0 (S SN : SX) (n : Nat) (x1 : Int) (x2 : Int) (A : AH)  : go true 2 S SN pb_X12_areSeated (n + 1) 0 [vR 21 190 0, vI x1, vI x2, vU, vU] [] A =
    go true 2 S SN pb_X12_areSeated (n + 0) 2 [vR 21 190 0, vI x1, vI x2, vI 0, vU] [] A := rfl

set_option maxRecDepth 100000 in
theorem q_X12_areSeated_2 (S SN : SX) (n : Nat) (x1 : Int) (x2 : Int) (x3 : Int) (u4 : AV) (A : AH)  : go true 2 S SN pb_X12_areSeated (n + 3) 2 [vR 21 190 0, vI x1, vI x2, vI x3, u4] [] A =
    cI (S 196 [vR 21 190 0] A) fun r2 A1 =>
    if x3 < r2 then
      if (band (bshr x1 x3) 1) = 0 then
        go true 2 S SN pb_X12_areSeated (n + 2) 56 [vR 21 190 0, vI x1, vI x2, vI x3, u4] [] A1
      else
      cI (S 235 [vR 21 190 0] A1) fun r4 A3 =>
      if r4 = (-1) then some (some (vI 0), A3) else
      if (0 : Int) ≤ w32 (13 + x3) ∧ w32 (13 + x3) < 146 then
        go true 2 S SN pb_X12_areSeated (n + 0) 46 [vR 21 190 0, vI x1, vI x2, vI x3, vI r4] [] (wi A3 237 ((w32 (13 + x3)).toNat) r4)
      else none
    else
    some (some (vI 1), A1) := rfl

set_option maxRecDepth 100000 in
theorem q_X12_areSeated_46 (S SN : SX) (n : Nat) (x1 : Int) (x2 : Int) (x3 : Int) (x4 : Int) (A : AH)  : go true 2 S SN pb_X12_areSeated (n + 1) 46 [vR 21 190 0, vI x1, vI x2, vI x3, vI x4] [] A =
    if (0 : Int) ≤ w32 (19 + x3) ∧ w32 (19 + x3) < 146 then
      go true 2 S SN pb_X12_areSeated (n + 0) 56 [vR 21 190 0, vI x1, vI x2, vI x3, vI x4] [] (wi A 237 ((w32 (19 + x3)).toNat) x2)
    else none := rfl

set_option maxRecDepth 100000 in
theorem q_X12_areSeated_56 (S SN : SX) (n : Nat) (x1 : Int) (x2 : Int) (x3 : Int) (u4 : AV) (A : AH)  : go true 2 S SN pb_X12_areSeated (n + 1) 56 [vR 21 190 0, vI x1, vI x2, vI x3, u4] [] A =
    go true 2 S SN pb_X12_areSeated (n + 0) 2 [vR 21 190 0, vI x1, vI x2, vI (w32 (x3 + 1)), u4] [] A := rfl

set_option maxRecDepth 100000 in
theorem q_X12_bits_0 (S SN : SX) (n : Nat) (x0 : Int) (A : AH)  : go true 0 S SN pb_X12_bits (n + 1) 0 [vI x0, vU, vU] [] A =
    go true 0 S SN pb_X12_bits (n + 0) 4 [vI x0, vI 0, vI x0] [] A := rfl

set_option maxRecDepth 100000 in
theorem q_X12_bits_4 (S SN : SX) (n : Nat) (x0 : Int) (x1 : Int) (x2 : Int) (A : AH)  : go true 0 S SN pb_X12_bits (n + 2) 4 [vI x0, vI x1, vI x2] [] A =
    if x2 = 0 then
      some (some (vI x1), A)
    else
    go true 0 S SN pb_X12_bits (n + 1) 4 [vI x0, vI (w32 (x1 + 1)), vI (band x2 (w32 (x2 - 1)))] [] A := rfl

set_option maxRecDepth 100000 in
theorem q_X12_costsOf_0 (S SN : SX) (n : Nat) (x1 : Int) (A : AH)  : go true 0 S SN pb_X12_costsOf (n + 1) 0 [vR 21 190 0, vI x1, vU, vU] [] A =
    go true 0 S SN pb_X12_costsOf (n + 0) 4 [vR 21 190 0, vI x1, vI 0, vI 0] [] A := rfl

set_option maxRecDepth 100000 in
theorem q_X12_costsOf_4 (S SN : SX) (n : Nat) (x1 : Int) (x2 : Int) (x3 : Int) (A : AH)  : go true 0 S SN pb_X12_costsOf (n + 2) 4 [vR 21 190 0, vI x1, vI x2, vI x3] [] A =
    cI (S 196 [vR 21 190 0] A) fun r2 A1 =>
    if x3 < r2 then
      if (band (bshr x1 x3) 1) = 1 then
        if (0 : Int) ≤ w32 (13 + (w32 (2 * x3))) ∧ w32 (13 + (w32 (2 * x3))) < 24 then
          go true 0 S SN pb_X12_costsOf (n + 1) 35 [vR 21 190 0, vI x1, vI (w32 (x2 + (gi A1 227 ((w32 (13 + (w32 (2 * x3)))).toNat)))), vI x3] [] A1
        else none
      else
      go true 0 S SN pb_X12_costsOf (n + 1) 35 [vR 21 190 0, vI x1, vI x2, vI x3] [] A1
    else
    some (some (vI x2), A1) := rfl

set_option maxRecDepth 100000 in
theorem q_X12_costsOf_35 (S SN : SX) (n : Nat) (x1 : Int) (x2 : Int) (x3 : Int) (A : AH)  : go true 0 S SN pb_X12_costsOf (n + 1) 35 [vR 21 190 0, vI x1, vI x2, vI x3] [] A =
    go true 0 S SN pb_X12_costsOf (n + 0) 4 [vR 21 190 0, vI x1, vI x2, vI (w32 (x3 + 1))] [] A := rfl

set_option maxRecDepth 100000 in
theorem q_X12_isEnough_0 (S SN : SX) (n : Nat) (x1 : Int) (x2 : Int) (x3 : Int) (x4 : Int) (A : AH)  : go true 2 S SN pb_X12_isEnough (n + 2) 0 [vR 21 190 0, vI x1, vI x2, vI x3, vI x4, vU] [] A =
    cI (S 236 [vR 21 190 0, vI x1, vI x2] A) fun r2 A1 =>
    if r2 = 0 then
      go true 2 S SN pb_X12_isEnough (n + 1) 38 [vR 21 190 0, vI x1, vI x2, vI x3, vI x4, vU] [] A1
    else
    if x2 = 0 then
      cL (S 228 [vR 21 190 0, vI x3] A1) fun r4 A3 =>
      go true 2 S SN pb_X12_isEnough (n + 1) 27 [vR 21 190 0, vI x1, vI x2, vI x3, vI x4, vU] [vL r4] A3
    else
    cL (S 228 [vR 21 190 0, vI x3] A1) fun r6 A5 =>
    go true 2 S SN pb_X12_isEnough (n + 0) 27 [vR 21 190 0, vI x1, vI x2, vI x3, vI x4, vU] [vL (w64 (-r6))] A5 := rfl

set_option maxRecDepth 100000 in
theorem q_X12_isEnough_27 (S SN : SX) (n : Nat) (x1 : Int) (x2 : Int) (x3 : Int) (x4 : Int) (u5 : AV) (sy0 : Int) (A : AH)  : go true 2 S SN pb_X12_isEnough (n + 1) 27 [vR 21 190 0, vI x1, vI x2, vI x3, vI x4, u5] [vL sy0] A =
    if (lcp sy0 x4) < 0 then
      go true 2 S SN pb_X12_isEnough (n + 0) 38 [vR 21 190 0, vI x1, vI x2, vI x3, vI x4, u5] [] A
    else
    go true 2 S SN pb_X12_isEnough (n + 0) 39 [vR 21 190 0, vI x1, vI x2, vI x3, vI x4, u5] [vI 1] A := rfl

set_option maxRecDepth 100000 in
theorem q_X12_isEnough_38 (S SN : SX) (n : Nat) (x1 : Int) (x2 : Int) (x3 : Int) (x4 : Int) (u5 : AV) (A : AH)  : go true 2 S SN pb_X12_isEnough (n + 1) 38 [vR 21 190 0, vI x1, vI x2, vI x3, vI x4, u5] [] A =
    go true 2 S SN pb_X12_isEnough (n + 0) 39 [vR 21 190 0, vI x1, vI x2, vI x3, vI x4, u5] [vI 0] A := rfl

set_option maxRecDepth 100000 in
theorem q_X12_isEnough_39 (S SN : SX) (n : Nat) (x1 : Int) (x2 : Int) (x3 : Int) (x4 : Int) (u5 : AV) (sx0 : Int) (A : AH)  : go true 2 S SN pb_X12_isEnough (n + 1) 39 [vR 21 190 0, vI x1, vI x2, vI x3, vI x4, u5] [vI sx0] A =
    cV (S 226 [vR 21 190 0] A) fun A1 =>
    if sx0 = 0 ∨ sx0 = 1 then some (some (vI sx0), A1) else
    none := rfl

set_option maxRecDepth 100000 in
theorem q_X12_hire_0 (S SN : SX) (n : Nat) (x1 : Int) (x2 : Int) (x3 : Int) (x4 : Int) (A : AH)  : go true 0 S SN pb_X12_hire (n + 2) 0 [vR 21 190 0, vI x1, vI x2, vI x3, vI x4, vU, vU, vU] [] A =
    cI (S 149 [vL x1, vL 0, vL 1] A) fun r2 A1 =>
    if r2 = 0 then
      some (some (vI (-1)), A1)
    else
    cI (S 229 [vR 21 190 0, vI x2, vI 1, vI 50] A1) fun r4 A3 =>
    if r4 = 0 then
      some (some (vI (-1)), A3)
    else
    cI (S 149 [vL x4, vL 0, vL 2] A3) fun r6 A5 =>
    if r6 = 0 then
      some (some (vI (-1)), A5)
    else
    cV (S 225 [vR 21 190 0] A5) fun A7 =>
    go true 0 S SN pb_X12_hire (n + 0) 46 [vR 21 190 0, vI x1, vI x2, vI x3, vI x4, vI 0, vI 0, vU] [] A7 := rfl

set_option maxRecDepth 100000 in
theorem q_X12_hire_46 (S SN : SX) (n : Nat) (x1 : Int) (x2 : Int) (x3 : Int) (x4 : Int) (x5 : Int) (x6 : Int) (u7 : AV) (A : AH)  : go true 0 S SN pb_X12_hire (n + 2) 46 [vR 21 190 0, vI x1, vI x2, vI x3, vI x4, vI x5, vI x6, u7] [] A =
    cI (S 196 [vR 21 190 0] A) fun r2 A1 =>
    if x6 < r2 then
      cI (S 200 [vR 21 190 0, vI (w32 (10 + x6))] A1) fun r4 A3 =>
      if r4 = 0 then
        go true 0 S SN pb_X12_hire (n + 1) 76 [vR 21 190 0, vI x1, vI x2, vI x3, vI x4, vI x5, vI x6, u7] [] A3
      else
      go true 0 S SN pb_X12_hire (n + 1) 76 [vR 21 190 0, vI x1, vI x2, vI x3, vI x4, vI (bor x5 (bshl 1 x6)), vI x6, u7] [] A3
    else
    go true 0 S SN pb_X12_hire (n + 0) 88 [vR 21 190 0, vI x1, vI x2, vI x3, vI x4, vI x5, vI (-1), vI 0] [] A1 := rfl

set_option maxRecDepth 100000 in
theorem q_X12_hire_76 (S SN : SX) (n : Nat) (x1 : Int) (x2 : Int) (x3 : Int) (x4 : Int) (x5 : Int) (x6 : Int) (u7 : AV) (A : AH)  : go true 0 S SN pb_X12_hire (n + 1) 76 [vR 21 190 0, vI x1, vI x2, vI x3, vI x4, vI x5, vI x6, u7] [] A =
    go true 0 S SN pb_X12_hire (n + 0) 46 [vR 21 190 0, vI x1, vI x2, vI x3, vI x4, vI x5, vI (w32 (x6 + 1)), u7] [] A := rfl

set_option maxRecDepth 100000 in
theorem q_X12_hire_88 (S SN : SX) (n : Nat) (x1 : Int) (x2 : Int) (x3 : Int) (x4 : Int) (x5 : Int) (x6 : Int) (x7 : Int) (A : AH)  : go true 0 S SN pb_X12_hire (n + 3) 88 [vR 21 190 0, vI x1, vI x2, vI x3, vI x4, vI x5, vI x6, vI x7] [] A =
    cI (S 196 [vR 21 190 0] A) fun r2 A1 =>
    if x7 < (bshl 1 r2) then
      if (band x7 x5) = 0 then
        if x6 = (-1) then
          go true 0 S SN pb_X12_hire (n + 2) 157 [vR 21 190 0, vI x1, vI x2, vI x3, vI x4, vI x5, vI x6, vI x7] [] A1
        else
        cI (S 237 [vI x7] A1) fun r4 A3 =>
        cI (S 237 [vI x6] A3) fun r6 A5 =>
        if r6 < r4 then
          go true 0 S SN pb_X12_hire (n + 2) 173 [vR 21 190 0, vI x1, vI x2, vI x3, vI x4, vI x5, vI x6, vI x7] [] A5
        else
        cI (S 237 [vI x7] A5) fun r8 A7 =>
        cI (S 237 [vI x6] A7) fun r10 A9 =>
        if r8 = r10 then
          cI (S 238 [vR 21 190 0, vI x7] A9) fun r12 A11 =>
          cI (S 238 [vR 21 190 0, vI x6] A11) fun r14 A13 =>
          if r12 < r14 then
            go true 0 S SN pb_X12_hire (n + 2) 157 [vR 21 190 0, vI x1, vI x2, vI x3, vI x4, vI x5, vI x6, vI x7] [] A13
          else
          go true 0 S SN pb_X12_hire (n + 2) 173 [vR 21 190 0, vI x1, vI x2, vI x3, vI x4, vI x5, vI x6, vI x7] [] A13
        else
        go true 0 S SN pb_X12_hire (n + 2) 157 [vR 21 190 0, vI x1, vI x2, vI x3, vI x4, vI x5, vI x6, vI x7] [] A9
      else
      go true 0 S SN pb_X12_hire (n + 2) 173 [vR 21 190 0, vI x1, vI x2, vI x3, vI x4, vI x5, vI x6, vI x7] [] A1
    else
    if x6 = (-1) then
      some (some (vI (-1)), A1)
    else
    go true 0 S SN pb_X12_hire (n + 1) 189 [vR 21 190 0, vI x1, vI x2, vI x3, vI x4, vI x5, vI x6, vI x7] [] A1 := rfl

set_option maxRecDepth 100000 in
theorem q_X12_hire_157 (S SN : SX) (n : Nat) (x1 : Int) (x2 : Int) (x3 : Int) (x4 : Int) (x5 : Int) (x6 : Int) (x7 : Int) (A : AH)  : go true 0 S SN pb_X12_hire (n + 1) 157 [vR 21 190 0, vI x1, vI x2, vI x3, vI x4, vI x5, vI x6, vI x7] [] A =
    cI (S 239 [vR 21 190 0, vI x7, vI x1, vI x2, vI x3] A) fun r2 A1 =>
    if r2 = 0 then
      go true 0 S SN pb_X12_hire (n + 0) 173 [vR 21 190 0, vI x1, vI x2, vI x3, vI x4, vI x5, vI x6, vI x7] [] A1
    else
    go true 0 S SN pb_X12_hire (n + 0) 173 [vR 21 190 0, vI x1, vI x2, vI x3, vI x4, vI x5, vI x7, vI x7] [] A1 := rfl

set_option maxRecDepth 100000 in
theorem q_X12_hire_173 (S SN : SX) (n : Nat) (x1 : Int) (x2 : Int) (x3 : Int) (x4 : Int) (x5 : Int) (x6 : Int) (x7 : Int) (A : AH)  : go true 0 S SN pb_X12_hire (n + 1) 173 [vR 21 190 0, vI x1, vI x2, vI x3, vI x4, vI x5, vI x6, vI x7] [] A =
    go true 0 S SN pb_X12_hire (n + 0) 88 [vR 21 190 0, vI x1, vI x2, vI x3, vI x4, vI x5, vI x6, vI (w32 (x7 + 1))] [] A := rfl

set_option maxRecDepth 100000 in
theorem q_X12_hire_189 (S SN : SX) (n : Nat) (x1 : Int) (x2 : Int) (x3 : Int) (x4 : Int) (x5 : Int) (x6 : Int) (x7 : Int) (A : AH)  : go true 0 S SN pb_X12_hire (n + 4) 189 [vR 21 190 0, vI x1, vI x2, vI x3, vI x4, vI x5, vI x6, vI x7] [] A =
    if x4 = 0 then
      cI (S 237 [vI x6] A) fun r2 A1 =>
      some (some (vI r2), A1)
    else
    if x4 = 1 then
      some (some (vI x6), A)
    else
    cI (S 238 [vR 21 190 0, vI x6] A) fun r4 A3 =>
    some (some (vI r4), A3) := rfl

set_option maxRecDepth 100000 in
theorem q_X12_changes_0 (S SN : SX) (n : Nat) (x1 : Int) (x2 : Int) (A : AH)  : go true 3 S SN pb_X12_changes (n + 1) 0 [vR 21 190 0, vI x1, vI x2, vU] [] A =
    cI (S 199 [vR 21 190 0, vI x1] A) fun r2 A1 =>
    cI (S 199 [vR 21 190 0, vI x2] A1) fun r4 A3 =>
    if (0 : Int) ≤ w32 (3 + x1) ∧ w32 (3 + x1) < 146 then
      go true 3 S SN pb_X12_changes (n + 0) 19 [vR 21 190 0, vI x1, vI x2, vI r2] [] (wi A3 237 ((w32 (3 + x1)).toNat) r4)
    else none := rfl

set_option maxRecDepth 100000 in
theorem q_X12_changes_19 (S SN : SX) (n : Nat) (x1 : Int) (x2 : Int) (x3 : Int) (A : AH)  : go true 3 S SN pb_X12_changes (n + 1) 19 [vR 21 190 0, vI x1, vI x2, vI x3] [] A =
    if (0 : Int) ≤ w32 (3 + x2) ∧ w32 (3 + x2) < 146 then
      go true 3 S SN pb_X12_changes (n + 0) 28 [vR 21 190 0, vI x1, vI x2, vI x3] [] (wi A 237 ((w32 (3 + x2)).toNat) x3)
    else none := rfl

set_option maxRecDepth 100000 in
theorem q_X12_changes_28 (S SN : SX) (n : Nat) (x1 : Int) (x2 : Int) (x3 : Int) (A : AH)  : go true 3 S SN pb_X12_changes (n + 1) 28 [vR 21 190 0, vI x1, vI x2, vI x3] [] A =
    some (none, A) := rfl

set_option maxRecDepth 100000 in
theorem q_X12_change_0 (S SN : SX) (n : Nat) (x1 : Int) (x2 : Int) (A : AH)  : go true 0 S SN pb_X12_change (n + 3) 0 [vR 21 190 0, vI x1, vI x2, vU, vU, vU, vU, vU, vU, vU, vU, vU] [] A =
    cI (S 149 [vL x1, vL 0, vL 1] A) fun r2 A1 =>
    if r2 = 0 then
      some (some (vI (-1)), A1)
    else
    cI (S 149 [vL x2, vL 0, vL 1] A1) fun r4 A3 =>
    if r4 = 0 then
      some (some (vI (-1)), A3)
    else
    if x1 = 0 then
      go true 0 S SN pb_X12_change (n + 1) 31 [vR 21 190 0, vI x1, vI x2, vU, vU, vU, vU, vU, vU, vU, vU, vU] [vI 1] A3
    else
    go true 0 S SN pb_X12_change (n + 0) 31 [vR 21 190 0, vI x1, vI x2, vU, vU, vU, vU, vU, vU, vU, vU, vU] [vI (-1)] A3 := rfl

set_option maxRecDepth 100000 in
theorem q_X12_change_31 (S SN : SX) (n : Nat) (x1 : Int) (x2 : Int) (u3 : AV) (u4 : AV) (u5 : AV) (u6 : AV) (u7 : AV) (u8 : AV) (u9 : AV) (u10 : AV) (u11 : AV) (sx0 : Int) (A : AH)  : go true 0 S SN pb_X12_change (n + 1) 31 [vR 21 190 0, vI x1, vI x2, u3, u4, u5, u6, u7, u8, u9, u10, u11] [vI sx0] A =
    cL (S 227 [vR 21 190 0] A) fun r2 A1 =>
    go true 0 S SN pb_X12_change (n + 0) 50 [vR 21 190 0, vI x1, vI x2, vI sx0, vL (w64 (sx0 * r2)), vS, vI (-1), vI (-1), vI 0, u9, u10, u11] [] A1 := rfl

set_option maxRecDepth 100000 in
theorem q_X12_change_50 (S SN : SX) (n : Nat) (x1 : Int) (x2 : Int) (x3 : Int) (y4 : Int) (x6 : Int) (x7 : Int) (x8 : Int) (u9 : AV) (u10 : AV) (u11 : AV) (A : AH)  : go true 0 S SN pb_X12_change (n + 4) 50 [vR 21 190 0, vI x1, vI x2, vI x3, vL y4, vS, vI x6, vI x7, vI x8, u9, u10, u11] [] A =
    if x8 < 16 then
      go true 0 S SN pb_X12_change (n + 3) 63 [vR 21 190 0, vI x1, vI x2, vI x3, vL y4, vS, vI x6, vI x7, vI x8, vI (w32 (x8 + 1)), u10, u11] [] A
    else
    if x2 = 0 then
      some (some (vI x6), A)
    else
    some (some (vI x7), A) := rfl

set_option maxRecDepth 100000 in
theorem q_X12_change_63 (S SN : SX) (n : Nat) (x1 : Int) (x2 : Int) (x3 : Int) (y4 : Int) (x6 : Int) (x7 : Int) (x8 : Int) (x9 : Int) (u10 : AV) (u11 : AV) (A : AH)  : go true 0 S SN pb_X12_change (n + 3) 63 [vR 21 190 0, vI x1, vI x2, vI x3, vL y4, vS, vI x6, vI x7, vI x8, vI x9, u10, u11] [] A =
    if x9 < 16 then
      cI (S 200 [vR 21 190 0, vI x8] A) fun r2 A1 =>
      if r2 = 0 then
        go true 0 S SN pb_X12_change (n + 2) 139 [vR 21 190 0, vI x1, vI x2, vI x3, vL y4, vS, vI x6, vI x7, vI x8, vI x9, u10, u11] [] A1
      else
      cI (S 200 [vR 21 190 0, vI x9] A1) fun r4 A3 =>
      if r4 = 0 then
        go true 0 S SN pb_X12_change (n + 2) 139 [vR 21 190 0, vI x1, vI x2, vI x3, vL y4, vS, vI x6, vI x7, vI x8, vI x9, u10, u11] [] A3
      else
      cV (S 241 [vR 21 190 0, vI x8, vI x9] A3) fun A5 =>
      cL (S 227 [vR 21 190 0] A5) fun r7 A6 =>
      cV (S 241 [vR 21 190 0, vI x8, vI x9] A6) fun A8 =>
      if 0 < (lcp (w64 (x3 * r7)) y4) then
        go true 0 S SN pb_X12_change (n + 0) 139 [vR 21 190 0, vI x1, vI x2, vI x3, vL (w64 (x3 * r7)), vS, vI x8, vI x9, vI x8, vI x9, vL (w64 (x3 * r7)), vS] [] A8
      else
      go true 0 S SN pb_X12_change (n + 1) 139 [vR 21 190 0, vI x1, vI x2, vI x3, vL y4, vS, vI x6, vI x7, vI x8, vI x9, vL (w64 (x3 * r7)), vS] [] A8
    else
    go true 0 S SN pb_X12_change (n + 1) 50 [vR 21 190 0, vI x1, vI x2, vI x3, vL y4, vS, vI x6, vI x7, vI (w32 (x8 + 1)), vI x9, u10, u11] [] A := rfl

set_option maxRecDepth 100000 in
theorem q_X12_change_139 (S SN : SX) (n : Nat) (x1 : Int) (x2 : Int) (x3 : Int) (y4 : Int) (x6 : Int) (x7 : Int) (x8 : Int) (x9 : Int) (u10 : AV) (u11 : AV) (A : AH)  : go true 0 S SN pb_X12_change (n + 1) 139 [vR 21 190 0, vI x1, vI x2, vI x3, vL y4, vS, vI x6, vI x7, vI x8, vI x9, u10, u11] [] A =
    go true 0 S SN pb_X12_change (n + 0) 63 [vR 21 190 0, vI x1, vI x2, vI x3, vL y4, vS, vI x6, vI x7, vI x8, vI (w32 (x9 + 1)), u10, u11] [] A := rfl

set_option maxRecDepth 100000 in
theorem q_X12_laysPointMoves_0 (S SN : SX) (n : Nat) (x1 : Int) (A : AH)  : go true 3 S SN pb_X12_laysPointMoves (n + 1) 0 [vR 21 190 0, vI x1, vU, vU, vU, vU] [] A =
    go true 3 S SN pb_X12_laysPointMoves (n + 0) 17 [vR 21 190 0, vI x1, vI (gi A 237 0), vI (gi A 237 2), vI 0, vU] [] A := rfl

set_option maxRecDepth 100000 in
theorem q_X12_laysPointMoves_17 (S SN : SX) (n : Nat) (x1 : Int) (x2 : Int) (x3 : Int) (x4 : Int) (u5 : AV) (A : AH)  : go true 3 S SN pb_X12_laysPointMoves (n + 2) 17 [vR 21 190 0, vI x1, vI x2, vI x3, vI x4, u5] [] A =
    if x4 < x1 then
      go true 3 S SN pb_X12_laysPointMoves (n + 1) 26 [vR 21 190 0, vI x1, vI x2, vI x3, vI x4, vI 0] [] A
    else
    go true 3 S SN pb_X12_laysPointMoves (n + 0) 95 [vR 21 190 0, vI x1, vI x2, vI x3, vI x4, u5] [] (wi (wi A 237 0 x2) 237 2 x3) := rfl

set_option maxRecDepth 100000 in
theorem q_X12_laysPointMoves_26 (S SN : SX) (n : Nat) (x1 : Int) (x2 : Int) (x3 : Int) (x4 : Int) (x5 : Int) (A : AH)  : go true 3 S SN pb_X12_laysPointMoves (n + 2) 26 [vR 21 190 0, vI x1, vI x2, vI x3, vI x4, vI x5] [] A =
    cI (S 197 [vR 21 190 0] A) fun r2 A1 =>
    if x5 < r2 then
      go true 3 S SN pb_X12_laysPointMoves (n + 1) 43 [vR 21 190 0, vI x1, vI x2, vI x3, vI x4, vI x5] [] (wi A1 237 2 x5)
    else
    go true 3 S SN pb_X12_laysPointMoves (n + 0) 75 [vR 21 190 0, vI x1, vI x2, vI x3, vI x4, vI x5] [] (wi A1 237 0 (w32 ((gi A1 237 0) + 1))) := rfl

set_option maxRecDepth 100000 in
theorem q_X12_laysPointMoves_43 (S SN : SX) (n : Nat) (x1 : Int) (x2 : Int) (x3 : Int) (x4 : Int) (x5 : Int) (A : AH)  : go true 3 S SN pb_X12_laysPointMoves (n + 1) 43 [vR 21 190 0, vI x1, vI x2, vI x3, vI x4, vI x5] [] A =
    cL (S 227 [vR 21 190 0] A) fun r2 A1 =>
    if (0 : Int) ≤ w32 ((w32 (4 * x4)) + x5) ∧ w32 ((w32 (4 * x4)) + x5) < 12 then
      go true 3 S SN pb_X12_laysPointMoves (n + 0) 59 [vR 21 190 0, vI x1, vI x2, vI x3, vI x4, vI x5] [] (wi A1 242 ((w32 ((w32 (4 * x4)) + x5)).toNat) r2)
    else none := rfl

set_option maxRecDepth 100000 in
theorem q_X12_laysPointMoves_59 (S SN : SX) (n : Nat) (x1 : Int) (x2 : Int) (x3 : Int) (x4 : Int) (x5 : Int) (A : AH)  : go true 3 S SN pb_X12_laysPointMoves (n + 1) 59 [vR 21 190 0, vI x1, vI x2, vI x3, vI x4, vI x5] [] A =
    go true 3 S SN pb_X12_laysPointMoves (n + 0) 26 [vR 21 190 0, vI x1, vI x2, vI x3, vI x4, vI (w32 (x5 + 1))] [] A := rfl

set_option maxRecDepth 100000 in
theorem q_X12_laysPointMoves_75 (S SN : SX) (n : Nat) (x1 : Int) (x2 : Int) (x3 : Int) (x4 : Int) (x5 : Int) (A : AH)  : go true 3 S SN pb_X12_laysPointMoves (n + 1) 75 [vR 21 190 0, vI x1, vI x2, vI x3, vI x4, vI x5] [] A =
    go true 3 S SN pb_X12_laysPointMoves (n + 0) 17 [vR 21 190 0, vI x1, vI x2, vI x3, vI (w32 (x4 + 1)), vI x5] [] A := rfl

set_option maxRecDepth 100000 in
theorem q_X12_laysPointMoves_95 (S SN : SX) (n : Nat) (x1 : Int) (x2 : Int) (x3 : Int) (x4 : Int) (u5 : AV) (A : AH)  : go true 3 S SN pb_X12_laysPointMoves (n + 1) 95 [vR 21 190 0, vI x1, vI x2, vI x3, vI x4, u5] [] A =
    some (none, A) := rfl

set_option maxRecDepth 100000 in
theorem q_X12_bestPoint_0 (S SN : SX) (n : Nat) (x1 : Int) (A : AH)  : go true 0 S SN pb_X12_bestPoint (n + 1) 0 [vR 21 190 0, vI x1, vU, vU, vU, vU] [] A =
    go true 0 S SN pb_X12_bestPoint (n + 0) 4 [vR 21 190 0, vI x1, vI 0, vI 1, vU, vU] [] A := rfl

set_option maxRecDepth 100000 in
theorem q_X12_bestPoint_4 (S SN : SX) (n : Nat) (x1 : Int) (x2 : Int) (x3 : Int) (u4 : AV) (u5 : AV) (A : AH)  : go true 0 S SN pb_X12_bestPoint (n + 2) 4 [vR 21 190 0, vI x1, vI x2, vI x3, u4, u5] [] A =
    cI (S 197 [vR 21 190 0] A) fun r2 A1 =>
    if x3 < r2 then
      if (0 : Int) ≤ w32 ((w32 (4 * x1)) + x3) ∧ w32 ((w32 (4 * x1)) + x3) < 12 then
        if (0 : Int) ≤ w32 ((w32 (4 * x1)) + x2) ∧ w32 ((w32 (4 * x1)) + x2) < 12 then
          go true 0 S SN pb_X12_bestPoint (n + 1) 35 [vR 21 190 0, vI x1, vI x2, vI x3, vL (w64 ((gi A1 242 ((w32 ((w32 (4 * x1)) + x3)).toNat)) - (gi A1 242 ((w32 ((w32 (4 * x1)) + x2)).toNat)))), vS] [] A1
        else none
      else none
    else
    some (some (vI x2), A1) := rfl

set_option maxRecDepth 100000 in
theorem q_X12_bestPoint_35 (S SN : SX) (n : Nat) (x1 : Int) (x2 : Int) (x3 : Int) (y4 : Int) (A : AH)  : go true 0 S SN pb_X12_bestPoint (n + 2) 35 [vR 21 190 0, vI x1, vI x2, vI x3, vL y4, vS] [] A =
    if (x1.tmod 2) = 0 then
      if 0 < (lcp y4 0) then
        go true 0 S SN pb_X12_bestPoint (n + 1) 58 [vR 21 190 0, vI x1, vI x2, vI x3, vL y4, vS] [] A
      else
      go true 0 S SN pb_X12_bestPoint (n + 1) 60 [vR 21 190 0, vI x1, vI x2, vI x3, vL y4, vS] [] A
    else
    if (lcp y4 0) < 0 then
      go true 0 S SN pb_X12_bestPoint (n + 0) 58 [vR 21 190 0, vI x1, vI x2, vI x3, vL y4, vS] [] A
    else
    go true 0 S SN pb_X12_bestPoint (n + 0) 60 [vR 21 190 0, vI x1, vI x2, vI x3, vL y4, vS] [] A := rfl

set_option maxRecDepth 100000 in
theorem q_X12_bestPoint_58 (S SN : SX) (n : Nat) (x1 : Int) (x2 : Int) (x3 : Int) (y4 : Int) (A : AH)  : go true 0 S SN pb_X12_bestPoint (n + 1) 58 [vR 21 190 0, vI x1, vI x2, vI x3, vL y4, vS] [] A =
    go true 0 S SN pb_X12_bestPoint (n + 0) 60 [vR 21 190 0, vI x1, vI x3, vI x3, vL y4, vS] [] A := rfl

set_option maxRecDepth 100000 in
theorem q_X12_bestPoint_60 (S SN : SX) (n : Nat) (x1 : Int) (x2 : Int) (x3 : Int) (y4 : Int) (A : AH)  : go true 0 S SN pb_X12_bestPoint (n + 1) 60 [vR 21 190 0, vI x1, vI x2, vI x3, vL y4, vS] [] A =
    go true 0 S SN pb_X12_bestPoint (n + 0) 4 [vR 21 190 0, vI x1, vI x2, vI (w32 (x3 + 1)), vL y4, vS] [] A := rfl

set_option maxRecDepth 100000 in
theorem q_X12_points_0 (S SN : SX) (n : Nat) (x1 : Int) (x2 : Int) (A : AH)  : go true 1 S SN pb_X12_points (n + 2) 0 [vR 21 190 0, vI x1, vI x2, vU, vU, vU] [] A =
    cI (S 197 [vR 21 190 0] A) fun r2 A1 =>
    if r2 = 0 then
      some (some (vL (-1000000000000000)), A1)
    else
    cI (S 229 [vR 21 190 0, vI x1, vI 1, vI 3] A1) fun r4 A3 =>
    if r4 = 0 then
      some (some (vL (-1000000000000000)), A3)
    else
    if x2 = (-1) then
      go true 1 S SN pb_X12_points (n + 1) 39 [vR 21 190 0, vI x1, vI x2, vU, vU, vU] [] A3
    else
    cI (S 149 [vL x2, vL 0, vL (w32 (x1 - 1))] A3) fun r6 A5 =>
    if r6 = 0 then
      some (some (vL (-1000000000000000)), A5)
    else
    go true 1 S SN pb_X12_points (n + 1) 39 [vR 21 190 0, vI x1, vI x2, vU, vU, vU] [] A5 := rfl

set_option maxRecDepth 100000 in
theorem q_X12_points_39 (S SN : SX) (n : Nat) (x1 : Int) (x2 : Int) (u3 : AV) (u4 : AV) (u5 : AV) (A : AH)  : go true 1 S SN pb_X12_points (n + 2) 39 [vR 21 190 0, vI x1, vI x2, u3, u4, u5] [] A =
    cV (S 243 [vR 21 190 0, vI x1] A) fun A1 =>
    if x2 = (-1) then
      go true 1 S SN pb_X12_points (n + 0) 71 [vR 21 190 0, vI x1, vI x2, vL (w64 (100 * (gi A1 237 1))), vS, vI 0] [] A1
    else
    cI (S 244 [vR 21 190 0, vI x2] A1) fun r3 A2 =>
    some (some (vL r3), A2) := rfl

set_option maxRecDepth 100000 in
theorem q_X12_points_71 (S SN : SX) (n : Nat) (x1 : Int) (x2 : Int) (y3 : Int) (x5 : Int) (A : AH)  : go true 1 S SN pb_X12_points (n + 2) 71 [vR 21 190 0, vI x1, vI x2, vL y3, vS, vI x5] [] A =
    if x5 < x1 then
      cI (S 244 [vR 21 190 0, vI x5] A) fun r2 A1 =>
      if (0 : Int) ≤ w32 ((w32 (4 * x5)) + r2) ∧ w32 ((w32 (4 * x5)) + r2) < 12 then
        go true 1 S SN pb_X12_points (n + 1) 71 [vR 21 190 0, vI x1, vI x2, vL (w64 (y3 + (gi A1 242 ((w32 ((w32 (4 * x5)) + r2)).toNat)))), vS, vI (w32 (x5 + 1))] [] A1
      else none
    else
    some (some (vL y3), A) := rfl

set_option maxRecDepth 100000 in
theorem q_X12_peopleIn_0 (S SN : SX) (n : Nat) (x1 : Int) (A : AH)  : go true 0 S SN pb_X12_peopleIn (n + 1) 0 [vR 21 190 0, vI x1, vU, vU] [] A =
    go true 0 S SN pb_X12_peopleIn (n + 0) 4 [vR 21 190 0, vI x1, vI 0, vI 0] [] A := rfl

set_option maxRecDepth 100000 in
theorem q_X12_peopleIn_4 (S SN : SX) (n : Nat) (x1 : Int) (x2 : Int) (x3 : Int) (A : AH)  : go true 0 S SN pb_X12_peopleIn (n + 2) 4 [vR 21 190 0, vI x1, vI x2, vI x3] [] A =
    if x3 < (gi A 190 69) then
      if (band (bshr x1 x3) 1) = 1 then
        if (0 : Int) ≤ x3 ∧ x3 < 8 then
          go true 0 S SN pb_X12_peopleIn (n + 1) 32 [vR 21 190 0, vI x1, vI (bor x2 (bshl 1 (gi A 239 x3.toNat))), vI x3] [] A
        else none
      else
      go true 0 S SN pb_X12_peopleIn (n + 1) 32 [vR 21 190 0, vI x1, vI x2, vI x3] [] A
    else
    some (some (vI x2), A) := rfl

set_option maxRecDepth 100000 in
theorem q_X12_peopleIn_32 (S SN : SX) (n : Nat) (x1 : Int) (x2 : Int) (x3 : Int) (A : AH)  : go true 0 S SN pb_X12_peopleIn (n + 1) 32 [vR 21 190 0, vI x1, vI x2, vI x3] [] A =
    go true 0 S SN pb_X12_peopleIn (n + 0) 4 [vR 21 190 0, vI x1, vI x2, vI (w32 (x3 + 1))] [] A := rfl

set_option maxRecDepth 100000 in
theorem q_X12_fell_0 (S SN : SX) (n : Nat) (x1 : Int) (x2 : Int) (A : AH)  : go true 0 S SN pb_X12_fell (n + 2) 0 [vR 21 190 0, vI x1, vI x2, vU, vU, vU, vU] [] A =
    cI (S 149 [vL x2, vL 0, vL 2] A) fun r2 A1 =>
    if r2 = 0 then some (some (vI (-1)), A1) else
    cV (S 231 [vR 21 190 0] A1) fun A3 =>
    cI (S 195 [vR 21 190 0] A3) fun r5 A4 =>
    go true 0 S SN pb_X12_fell (n + 0) 36 [vR 21 190 0, vI x1, vI x2, vI 0, vI (w32 ((bshl 1 r5) - 1)), vI 0, vI 0] [] A4 := rfl

set_option maxRecDepth 100000 in
theorem q_X12_fell_36 (S SN : SX) (n : Nat) (x1 : Int) (x2 : Int) (x3 : Int) (x4 : Int) (x5 : Int) (x6 : Int) (A : AH)  : go true 0 S SN pb_X12_fell (n + 5) 36 [vR 21 190 0, vI x1, vI x2, vI x3, vI x4, vI x5, vI x6] [] A =
    if x6 < (bshl 1 (gi A 190 69)) then
      cI (S 232 [vR 21 190 0, vI x6] A) fun r2 A1 =>
      if r2 = x1 then
        cI (S 246 [vR 21 190 0, vI x6] A1) fun r4 A3 =>
        cI (S 246 [vR 21 190 0, vI x6] A3) fun r6 A5 =>
        go true 0 S SN pb_X12_fell (n + 3) 85 [vR 21 190 0, vI x1, vI x2, vI (w32 (x3 + 1)), vI (band x4 r4), vI (bor x5 r6), vI x6] [] A5
      else
      go true 0 S SN pb_X12_fell (n + 4) 85 [vR 21 190 0, vI x1, vI x2, vI x3, vI x4, vI x5, vI x6] [] A1
    else
    if x2 = 0 then
      some (some (vI x3), A)
    else
    if x2 = 1 then
      if x3 = 0 then
        some (some (vI 0), A)
      else
      some (some (vI x4), A)
    else
    some (some (vI x5), A) := rfl

set_option maxRecDepth 100000 in
theorem q_X12_fell_85 (S SN : SX) (n : Nat) (x1 : Int) (x2 : Int) (x3 : Int) (x4 : Int) (x5 : Int) (x6 : Int) (A : AH)  : go true 0 S SN pb_X12_fell (n + 1) 85 [vR 21 190 0, vI x1, vI x2, vI x3, vI x4, vI x5, vI x6] [] A =
    go true 0 S SN pb_X12_fell (n + 0) 36 [vR 21 190 0, vI x1, vI x2, vI x3, vI x4, vI x5, vI (w32 (x6 + 1))] [] A := rfl
