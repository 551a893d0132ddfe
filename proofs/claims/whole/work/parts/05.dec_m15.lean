set_option maxRecDepth 100000 in
theorem q_X12_isTold_0 (S SN : SX) (n : Nat) (x1 : Int) (A : AH)  : go true 2 S SN pb_X12_isTold (n + 2) 0 [vR 21 190 0, vI x1] [] A =
    if (gi A 190 53) = 0 then
      some (some (vI 0), A)
    else
    cI (S 195 [vR 21 190 0] A) fun r2 A1 =>
    cI (S 196 [vR 21 190 0] A1) fun r4 A3 =>
    if x1 = (w32 ((w32 (7 + r2)) + (w32 (2 * r4)))) then
      if (0 : Int) ≤ w32 (x1 - 1) ∧ w32 (x1 - 1) < 1600 then
        cI (S 291 [vR 30 191 1600, vI (w32 (x1 - 1))] A3) fun r6 A5 =>
        if (gi A3 191 ((w32 (x1 - 1)).toNat)) = r6 then
          go true 2 S SN pb_X12_isTold (n + 1) 48 [vR 21 190 0, vI x1] [] A5
        else
        some (some (vI 0), A5)
      else none
    else
    some (some (vI 0), A3) := rfl

set_option maxRecDepth 100000 in
theorem q_X12_isTold_48 (S SN : SX) (n : Nat) (x1 : Int) (A : AH)  : go true 2 S SN pb_X12_isTold (n + 2) 48 [vR 21 190 0, vI x1] [] A =
    if 999 < (w32 ((w32 (256 * (gi A 191 0))) + (gi A 191 1))) then
      go true 2 S SN pb_X12_isTold (n + 1) 112 [vR 21 190 0, vI x1] [] A
    else
    cI (S 295 [vR 21 190 0] A) fun r2 A1 =>
    cI (S 149 [vL r2, vL (-99999), vL 99999] A1) fun r4 A3 =>
    if r4 = 0 then
      go true 2 S SN pb_X12_isTold (n + 1) 112 [vR 21 190 0, vI x1] [] A3
    else
    cI (S 197 [vR 21 190 0] A3) fun r6 A5 =>
    if r6 < (gi A3 191 5) then
      go true 2 S SN pb_X12_isTold (n + 1) 112 [vR 21 190 0, vI x1] [] A5
    else
    cI (S 297 [vR 21 190 0] A5) fun r8 A7 =>
    if r8 = 0 then
      go true 2 S SN pb_X12_isTold (n + 1) 112 [vR 21 190 0, vI x1] [] A7
    else
    some (some (vI 1), A7) := rfl

set_option maxRecDepth 100000 in
theorem q_X12_isTold_112 (S SN : SX) (n : Nat) (x1 : Int) (A : AH)  : go true 2 S SN pb_X12_isTold (n + 2) 112 [vR 21 190 0, vI x1] [] A =
    some (some (vI 0), A) := rfl

set_option maxRecDepth 100000 in
theorem q_X12_on_0 (S SN : SX) (n : Nat)  (A : AH)  : go true 2 S SN pb_X12_on (n + 1) 0 [vR 21 190 0, vU, vU] [] A =
    go true 2 S SN pb_X12_on (n + 0) 10 [vR 21 190 0, vI (gi A 190 1), vU] [] (wi A 190 1 0) := rfl

set_option maxRecDepth 100000 in
theorem q_X12_on_10 (S SN : SX) (n : Nat) (x1 : Int) (u2 : AV) (A : AH)  : go true 2 S SN pb_X12_on (n + 2) 10 [vR 21 190 0, vI x1, u2] [] A =
    cI (S 298 [vR 21 190 0, vI x1] A) fun r2 A1 =>
    if r2 = 0 then
      go true 2 S SN pb_X12_on (n + 1) 28 [vR 21 190 0, vI x1, u2] [] (wi A1 192 5 (w32 ((gi A1 192 5) + 1)))
    else
    go true 2 S SN pb_X12_on (n + 0) 53 [vR 21 190 0, vI x1, u2] [] (wi A1 237 0 (w32 ((w32 (256 * (gi A1 191 0))) + (gi A1 191 1)))) := rfl

set_option maxRecDepth 100000 in
theorem q_X12_on_28 (S SN : SX) (n : Nat) (x1 : Int) (u2 : AV) (A : AH)  : go true 2 S SN pb_X12_on (n + 1) 28 [vR 21 190 0, vI x1, u2] [] A =
    some (some (vI 0), A) := rfl

set_option maxRecDepth 100000 in
theorem q_X12_on_53 (S SN : SX) (n : Nat) (x1 : Int) (u2 : AV) (A : AH)  : go true 2 S SN pb_X12_on (n + 1) 53 [vR 21 190 0, vI x1, u2] [] A =
    cI (S 295 [vR 21 190 0] A) fun r2 A1 =>
    go true 2 S SN pb_X12_on (n + 0) 63 [vR 21 190 0, vI x1, u2] [] (wi A1 237 1 r2) := rfl

set_option maxRecDepth 100000 in
theorem q_X12_on_63 (S SN : SX) (n : Nat) (x1 : Int) (u2 : AV) (A : AH)  : go true 2 S SN pb_X12_on (n + 1) 63 [vR 21 190 0, vI x1, u2] [] A =
    go true 2 S SN pb_X12_on (n + 0) 77 [vR 21 190 0, vI x1, u2] [] (wi A 237 2 (w32 ((gi A 191 5) - 1))) := rfl

set_option maxRecDepth 100000 in
theorem q_X12_on_77 (S SN : SX) (n : Nat) (x1 : Int) (u2 : AV) (A : AH)  : go true 2 S SN pb_X12_on (n + 1) 77 [vR 21 190 0, vI x1, u2] [] A =
    go true 2 S SN pb_X12_on (n + 0) 79 [vR 21 190 0, vI x1, vI 0] [] A := rfl

set_option maxRecDepth 100000 in
theorem q_X12_on_79 (S SN : SX) (n : Nat) (x1 : Int) (x2 : Int) (A : AH)  : go true 2 S SN pb_X12_on (n + 2) 79 [vR 21 190 0, vI x1, vI x2] [] A =
    cI (S 195 [vR 21 190 0] A) fun r2 A1 =>
    if x2 < r2 then
      if (0 : Int) ≤ w32 (6 + x2) ∧ w32 (6 + x2) < 1600 then
        if (0 : Int) ≤ w32 (3 + x2) ∧ w32 (3 + x2) < 146 then
          go true 2 S SN pb_X12_on (n + 1) 104 [vR 21 190 0, vI x1, vI x2] [] (wi A1 237 ((w32 (3 + x2)).toNat) (gi A1 191 ((w32 (6 + x2)).toNat)))
        else none
      else none
    else
    go true 2 S SN pb_X12_on (n + 0) 112 [vR 21 190 0, vI x1, vI 0] [] A1 := rfl

set_option maxRecDepth 100000 in
theorem q_X12_on_104 (S SN : SX) (n : Nat) (x1 : Int) (x2 : Int) (A : AH)  : go true 2 S SN pb_X12_on (n + 1) 104 [vR 21 190 0, vI x1, vI x2] [] A =
    go true 2 S SN pb_X12_on (n + 0) 79 [vR 21 190 0, vI x1, vI (w32 (x2 + 1))] [] A := rfl

set_option maxRecDepth 100000 in
theorem q_X12_on_112 (S SN : SX) (n : Nat) (x1 : Int) (x2 : Int) (A : AH)  : go true 2 S SN pb_X12_on (n + 2) 112 [vR 21 190 0, vI x1, vI x2] [] A =
    cI (S 196 [vR 21 190 0] A) fun r2 A1 =>
    if x2 < r2 then
      cI (S 195 [vR 21 190 0] A1) fun r4 A3 =>
      cI (S 296 [vR 21 190 0, vI (w32 (r4 + x2))] A3) fun r6 A5 =>
      if (0 : Int) ≤ w32 (13 + x2) ∧ w32 (13 + x2) < 146 then
        go true 2 S SN pb_X12_on (n + 1) 139 [vR 21 190 0, vI x1, vI x2] [] (wi A5 237 ((w32 (13 + x2)).toNat) r6)
      else none
    else
    go true 2 S SN pb_X12_on (n + 0) 183 [vR 21 190 0, vI x1, vI x2] [] (wi (wi A1 237 25 0) 190 73 0) := rfl

set_option maxRecDepth 100000 in
theorem q_X12_on_139 (S SN : SX) (n : Nat) (x1 : Int) (x2 : Int) (A : AH)  : go true 2 S SN pb_X12_on (n + 1) 139 [vR 21 190 0, vI x1, vI x2] [] A =
    cI (S 195 [vR 21 190 0] A) fun r2 A1 =>
    if (0 : Int) ≤ w32 ((w32 (7 + r2)) + (w32 (2 * x2))) ∧ w32 ((w32 (7 + r2)) + (w32 (2 * x2))) < 1600 then
      if (0 : Int) ≤ w32 (19 + x2) ∧ w32 (19 + x2) < 146 then
        go true 2 S SN pb_X12_on (n + 0) 164 [vR 21 190 0, vI x1, vI x2] [] (wi A1 237 ((w32 (19 + x2)).toNat) (gi A1 191 ((w32 ((w32 (7 + r2)) + (w32 (2 * x2)))).toNat)))
      else none
    else none := rfl

set_option maxRecDepth 100000 in
theorem q_X12_on_164 (S SN : SX) (n : Nat) (x1 : Int) (x2 : Int) (A : AH)  : go true 2 S SN pb_X12_on (n + 1) 164 [vR 21 190 0, vI x1, vI x2] [] A =
    go true 2 S SN pb_X12_on (n + 0) 112 [vR 21 190 0, vI x1, vI (w32 (x2 + 1))] [] A := rfl

set_option maxRecDepth 100000 in
theorem q_X12_on_183 (S SN : SX) (n : Nat) (x1 : Int) (x2 : Int) (A : AH)  : go true 2 S SN pb_X12_on (n + 1) 183 [vR 21 190 0, vI x1, vI x2] [] A =
    some (some (vI 1), A) := rfl

set_option maxRecDepth 100000 in
theorem q_X12_status_0 (S SN : SX) (n : Nat) (x1 : Int) (A : AH)  : go true 0 S SN pb_X12_status (n + 3) 0 [vR 21 190 0, vI x1] [] A =
    cI (S 149 [vL x1, vL 0, vL 5] A) fun r2 A1 =>
    if r2 = 0 then
      some (some (vI (-1)), A1)
    else
    if (0 : Int) ≤ x1 ∧ x1 < 6 then
      some (some (vI (gi A1 192 x1.toNat)), A1)
    else none := rfl
