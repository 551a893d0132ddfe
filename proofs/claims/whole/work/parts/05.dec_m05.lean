set_option maxRecDepth 100000 in
theorem q_X12_isSeat_0 (S SN : SX) (n : Nat) (x1 : Int) (A : AH)  : go true 2 S SN pb_X12_isSeat (n + 1) 0 [vR 21 190 0, vI x1] [] A =
    cI (S 194 [vR 21 190 0] A) fun r2 A1 =>
    cI (S 149 [vL x1, vL 0, vL (w32 (r2 - 1))] A1) fun r4 A3 =>
    if r4 = 0 ∨ r4 = 1 then some (some (vI r4), A3) else
    none := rfl

set_option maxRecDepth 100000 in
theorem q_X12_seatOf_0 (S SN : SX) (n : Nat) (x1 : Int) (A : AH)  : go true 0 S SN pb_X12_seatOf (n + 1) 0 [vR 21 190 0, vI x1] [] A =
    if (0 : Int) ≤ w32 (3 + x1) ∧ w32 (3 + x1) < 146 then some (some (vI (gi A 237 ((w32 (3 + x1)).toNat))), A) else
    none := rfl

set_option maxRecDepth 100000 in
theorem q_X12_doesSit_0 (S SN : SX) (n : Nat) (x1 : Int) (A : AH)  : go true 2 S SN pb_X12_doesSit (n + 1) 0 [vR 21 190 0, vI x1] [] A =
    cI (S 195 [vR 21 190 0] A) fun r2 A1 =>
    cI (S 149 [vL x1, vL 0, vL (w32 (r2 - 1))] A1) fun r4 A3 =>
    if r4 = 0 then
      cI (S 196 [vR 21 190 0] A3) fun r6 A5 =>
      cI (S 149 [vL x1, vL 10, vL (w32 ((w32 (10 + r6)) - 1))] A5) fun r8 A7 =>
      if r8 = 0 then
        go true 2 S SN pb_X12_doesSit (n + 0) 50 [vR 21 190 0, vI x1] [] A7
      else
      cI (S 199 [vR 21 190 0, vI x1] A7) fun r10 A9 =>
      if r10 = (-1) then
        go true 2 S SN pb_X12_doesSit (n + 0) 50 [vR 21 190 0, vI x1] [] A9
      else
      go true 2 S SN pb_X12_doesSit (n + 0) 46 [vR 21 190 0, vI x1] [] A9
    else
    go true 2 S SN pb_X12_doesSit (n + 0) 46 [vR 21 190 0, vI x1] [] A3 := rfl

set_option maxRecDepth 100000 in
theorem q_X12_doesSit_46 (S SN : SX) (n : Nat) (x1 : Int) (A : AH)  : go true 2 S SN pb_X12_doesSit (n + 2) 46 [vR 21 190 0, vI x1] [] A =
    some (some (vI 1), A) := rfl

set_option maxRecDepth 100000 in
theorem q_X12_doesSit_50 (S SN : SX) (n : Nat) (x1 : Int) (A : AH)  : go true 2 S SN pb_X12_doesSit (n + 2) 50 [vR 21 190 0, vI x1] [] A =
    some (some (vI 0), A) := rfl

set_option maxRecDepth 100000 in
theorem q_X12_sitterAt_0 (S SN : SX) (n : Nat) (x1 : Int) (A : AH)  : go true 0 S SN pb_X12_sitterAt (n + 1) 0 [vR 21 190 0, vI x1, vU] [] A =
    go true 0 S SN pb_X12_sitterAt (n + 0) 2 [vR 21 190 0, vI x1, vI 0] [] A := rfl

set_option maxRecDepth 100000 in
theorem q_X12_sitterAt_2 (S SN : SX) (n : Nat) (x1 : Int) (x2 : Int) (A : AH)  : go true 0 S SN pb_X12_sitterAt (n + 2) 2 [vR 21 190 0, vI x1, vI x2] [] A =
    if x2 < 16 then
      cI (S 200 [vR 21 190 0, vI x2] A) fun r2 A1 =>
      if r2 = 0 then
        go true 0 S SN pb_X12_sitterAt (n + 1) 27 [vR 21 190 0, vI x1, vI x2] [] A1
      else
      cI (S 199 [vR 21 190 0, vI x2] A1) fun r4 A3 =>
      if r4 = x1 then some (some (vI x2), A3) else
      go true 0 S SN pb_X12_sitterAt (n + 1) 27 [vR 21 190 0, vI x1, vI x2] [] A3
    else
    some (some (vI (-1)), A) := rfl

set_option maxRecDepth 100000 in
theorem q_X12_sitterAt_27 (S SN : SX) (n : Nat) (x1 : Int) (x2 : Int) (A : AH)  : go true 0 S SN pb_X12_sitterAt (n + 1) 27 [vR 21 190 0, vI x1, vI x2] [] A =
    go true 0 S SN pb_X12_sitterAt (n + 0) 2 [vR 21 190 0, vI x1, vI (w32 (x2 + 1))] [] A := rfl

set_option maxRecDepth 100000 in
theorem q_X12_isMute_0 (S SN : SX) (n : Nat) (x1 : Int) (A : AH)  : go true 2 S SN pb_X12_isMute (n + 3) 0 [vR 21 190 0, vI x1] [] A =
    if x1 < 10 then
      some (some (vI 0), A)
    else
    some (some (vI 1), A) := rfl

set_option maxRecDepth 100000 in
theorem q_X12_keepsOf_0 (S SN : SX) (n : Nat) (x1 : Int) (A : AH)  : go true 0 S SN pb_X12_keepsOf (n + 3) 0 [vR 21 190 0, vI x1] [] A =
    cI (S 202 [vR 21 190 0, vI x1] A) fun r2 A1 =>
    if r2 = 0 then
      if (0 : Int) ≤ w32 (32 + (w32 (4 * x1))) ∧ w32 (32 + (w32 (4 * x1))) < 64 then
        some (some (vI (gi A1 226 ((w32 (32 + (w32 (4 * x1)))).toNat))), A1)
      else none
    else
    if (0 : Int) ≤ w32 (12 + (w32 (2 * (w32 (x1 - 10))))) ∧ w32 (12 + (w32 (2 * (w32 (x1 - 10))))) < 24 then
      some (some (vI (gi A1 227 ((w32 (12 + (w32 (2 * (w32 (x1 - 10)))))).toNat))), A1)
    else none := rfl

set_option maxRecDepth 100000 in
theorem q_X12_itchesOf_0 (S SN : SX) (n : Nat) (x1 : Int) (A : AH)  : go true 0 S SN pb_X12_itchesOf (n + 3) 0 [vR 21 190 0, vI x1] [] A =
    cI (S 202 [vR 21 190 0, vI x1] A) fun r2 A1 =>
    if r2 = 0 then
      if (0 : Int) ≤ w32 (33 + (w32 (4 * x1))) ∧ w32 (33 + (w32 (4 * x1))) < 64 then
        some (some (vI (gi A1 226 ((w32 (33 + (w32 (4 * x1)))).toNat))), A1)
      else none
    else
    some (some (vI 0), A1) := rfl

set_option maxRecDepth 100000 in
theorem q_X12_partyOf_0 (S SN : SX) (n : Nat) (x1 : Int) (A : AH)  : go true 0 S SN pb_X12_partyOf (n + 3) 0 [vR 21 190 0, vI x1] [] A =
    cI (S 202 [vR 21 190 0, vI x1] A) fun r2 A1 =>
    if r2 = 0 then
      if (0 : Int) ≤ w32 (34 + (w32 (4 * x1))) ∧ w32 (34 + (w32 (4 * x1))) < 64 then
        some (some (vI (gi A1 226 ((w32 (34 + (w32 (4 * x1)))).toNat))), A1)
      else none
    else
    if (0 : Int) ≤ w32 ((w32 (19 + x1)) - 10) ∧ w32 ((w32 (19 + x1)) - 10) < 146 then
      some (some (vI (gi A1 237 ((w32 ((w32 (19 + x1)) - 10)).toNat))), A1)
    else none := rfl

set_option maxRecDepth 100000 in
theorem q_X12_isBeside_0 (S SN : SX) (n : Nat) (x1 : Int) (x2 : Int) (A : AH)  : go true 2 S SN pb_X12_isBeside (n + 3) 0 [vR 21 190 0, vI x1, vI x2] [] A =
    cI (S 199 [vR 21 190 0, vI x1] A) fun r2 A1 =>
    cI (S 199 [vR 21 190 0, vI x2] A1) fun r4 A3 =>
    if (w32 (r2 - r4)) = 1 then
      go true 2 S SN pb_X12_isBeside (n + 2) 30 [vR 21 190 0, vI x1, vI x2] [] A3
    else
    cI (S 199 [vR 21 190 0, vI x2] A3) fun r6 A5 =>
    cI (S 199 [vR 21 190 0, vI x1] A5) fun r8 A7 =>
    if (w32 (r6 - r8)) = 1 then
      go true 2 S SN pb_X12_isBeside (n + 2) 30 [vR 21 190 0, vI x1, vI x2] [] A7
    else
    some (some (vI 0), A7) := rfl

set_option maxRecDepth 100000 in
theorem q_X12_isBeside_30 (S SN : SX) (n : Nat) (x1 : Int) (x2 : Int) (A : AH)  : go true 2 S SN pb_X12_isBeside (n + 2) 30 [vR 21 190 0, vI x1, vI x2] [] A =
    some (some (vI 1), A) := rfl

set_option maxRecDepth 100000 in
theorem q_X12_nearOf_0 (S SN : SX) (n : Nat) (x1 : Int) (A : AH)  : go true 0 S SN pb_X12_nearOf (n + 1) 0 [vR 21 190 0, vI x1, vU, vU] [] A =
    go true 0 S SN pb_X12_nearOf (n + 0) 4 [vR 21 190 0, vI x1, vI 0, vI 0] [] A := rfl

set_option maxRecDepth 100000 in
theorem q_X12_nearOf_4 (S SN : SX) (n : Nat) (x1 : Int) (x2 : Int) (x3 : Int) (A : AH)  : go true 0 S SN pb_X12_nearOf (n + 2) 4 [vR 21 190 0, vI x1, vI x2, vI x3] [] A =
    if x3 < 16 then
      cI (S 200 [vR 21 190 0, vI x3] A) fun r2 A1 =>
      if r2 = 0 then
        go true 0 S SN pb_X12_nearOf (n + 1) 30 [vR 21 190 0, vI x1, vI x2, vI x3] [] A1
      else
      cI (S 206 [vR 21 190 0, vI x3, vI x1] A1) fun r4 A3 =>
      if r4 = 0 then
        go true 0 S SN pb_X12_nearOf (n + 1) 30 [vR 21 190 0, vI x1, vI x2, vI x3] [] A3
      else
      go true 0 S SN pb_X12_nearOf (n + 1) 30 [vR 21 190 0, vI x1, vI (w32 (x2 + 1)), vI x3] [] A3
    else
    some (some (vI x2), A) := rfl

set_option maxRecDepth 100000 in
theorem q_X12_nearOf_30 (S SN : SX) (n : Nat) (x1 : Int) (x2 : Int) (x3 : Int) (A : AH)  : go true 0 S SN pb_X12_nearOf (n + 1) 30 [vR 21 190 0, vI x1, vI x2, vI x3] [] A =
    go true 0 S SN pb_X12_nearOf (n + 0) 4 [vR 21 190 0, vI x1, vI x2, vI (w32 (x3 + 1))] [] A := rfl
