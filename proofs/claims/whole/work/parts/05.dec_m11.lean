set_option maxRecDepth 100000 in
theorem q_X12_point_0 (S SN : SX) (n : Nat) (x1 : Int) (A : AH)  : go true 2 S SN pb_X12_point (n + 2) 0 [vR 21 190 0, vI x1] [] A =
    cI (S 197 [vR 21 190 0] A) fun r2 A1 =>
    cI (S 149 [vL x1, vL (-1), vL (w32 (r2 - 1))] A1) fun r4 A3 =>
    if r4 = 0 then
      go true 2 S SN pb_X12_point (n + 1) 28 [vR 21 190 0, vI x1] [] A3
    else
    if (gi A3 237 2) = x1 then
      go true 2 S SN pb_X12_point (n + 1) 28 [vR 21 190 0, vI x1] [] A3
    else
    cV (S 250 [vR 21 190 0] A3) fun A5 =>
    go true 2 S SN pb_X12_point (n + 0) 44 [vR 21 190 0, vI x1] [] (wi A5 237 2 x1) := rfl

set_option maxRecDepth 100000 in
theorem q_X12_point_28 (S SN : SX) (n : Nat) (x1 : Int) (A : AH)  : go true 2 S SN pb_X12_point (n + 1) 28 [vR 21 190 0, vI x1] [] A =
    cI (S 257 [vR 21 190 0] A) fun r2 A1 =>
    if r2 = 0 ∨ r2 = 1 then some (some (vI r2), A1) else
    none := rfl

set_option maxRecDepth 100000 in
theorem q_X12_point_44 (S SN : SX) (n : Nat) (x1 : Int) (A : AH)  : go true 2 S SN pb_X12_point (n + 1) 44 [vR 21 190 0, vI x1] [] A =
    some (some (vI 1), A) := rfl

set_option maxRecDepth 100000 in
theorem q_X12_move_0 (S SN : SX) (n : Nat) (x1 : Int) (x2 : Int) (A : AH)  : go true 2 S SN pb_X12_move (n + 2) 0 [vR 21 190 0, vI x1, vI x2, vU] [] A =
    cI (S 149 [vL x1, vL 0, vL 15] A) fun r2 A1 =>
    if r2 = 0 then
      go true 2 S SN pb_X12_move (n + 1) 37 [vR 21 190 0, vI x1, vI x2, vU] [] A1
    else
    cI (S 200 [vR 21 190 0, vI x1] A1) fun r4 A3 =>
    if r4 = 0 then
      go true 2 S SN pb_X12_move (n + 1) 37 [vR 21 190 0, vI x1, vI x2, vU] [] A3
    else
    cI (S 198 [vR 21 190 0, vI x2] A3) fun r6 A5 =>
    if r6 = 0 then
      go true 2 S SN pb_X12_move (n + 1) 37 [vR 21 190 0, vI x1, vI x2, vU] [] A5
    else
    cI (S 199 [vR 21 190 0, vI x1] A5) fun r8 A7 =>
    if r8 = x2 then
      go true 2 S SN pb_X12_move (n + 1) 37 [vR 21 190 0, vI x1, vI x2, vU] [] A7
    else
    cV (S 250 [vR 21 190 0] A7) fun A9 =>
    cI (S 201 [vR 21 190 0, vI x2] A9) fun r11 A10 =>
    if r11 = (-1) then
      go true 2 S SN pb_X12_move (n + 0) 70 [vR 21 190 0, vI x1, vI x2, vI r11] [] A10
    else
    cI (S 199 [vR 21 190 0, vI x1] A10) fun r13 A12 =>
    if (0 : Int) ≤ w32 (3 + r11) ∧ w32 (3 + r11) < 146 then
      go true 2 S SN pb_X12_move (n + 0) 70 [vR 21 190 0, vI x1, vI x2, vI r11] [] (wi A12 237 ((w32 (3 + r11)).toNat) r13)
    else none := rfl

set_option maxRecDepth 100000 in
theorem q_X12_move_37 (S SN : SX) (n : Nat) (x1 : Int) (x2 : Int) (u3 : AV) (A : AH)  : go true 2 S SN pb_X12_move (n + 1) 37 [vR 21 190 0, vI x1, vI x2, u3] [] A =
    cI (S 257 [vR 21 190 0] A) fun r2 A1 =>
    if r2 = 0 ∨ r2 = 1 then some (some (vI r2), A1) else
    none := rfl

set_option maxRecDepth 100000 in
theorem q_X12_move_70 (S SN : SX) (n : Nat) (x1 : Int) (x2 : Int) (x3 : Int) (A : AH)  : go true 2 S SN pb_X12_move (n + 1) 70 [vR 21 190 0, vI x1, vI x2, vI x3] [] A =
    if (0 : Int) ≤ w32 (3 + x1) ∧ w32 (3 + x1) < 146 then
      go true 2 S SN pb_X12_move (n + 0) 79 [vR 21 190 0, vI x1, vI x2, vI x3] [] (wi A 237 ((w32 (3 + x1)).toNat) x2)
    else none := rfl

set_option maxRecDepth 100000 in
theorem q_X12_move_79 (S SN : SX) (n : Nat) (x1 : Int) (x2 : Int) (x3 : Int) (A : AH)  : go true 2 S SN pb_X12_move (n + 1) 79 [vR 21 190 0, vI x1, vI x2, vI x3] [] A =
    some (some (vI 1), A) := rfl

set_option maxRecDepth 100000 in
theorem q_X12_take_0 (S SN : SX) (n : Nat) (x1 : Int) (x2 : Int) (x3 : Int) (A : AH)  : go true 2 S SN pb_X12_take (n + 2) 0 [vR 21 190 0, vI x1, vI x2, vI x3] [] A =
    cI (S 196 [vR 21 190 0] A) fun r2 A1 =>
    cI (S 149 [vL x1, vL 0, vL (w32 (r2 - 1))] A1) fun r4 A3 =>
    if r4 = 0 then
      go true 2 S SN pb_X12_take (n + 1) 54 [vR 21 190 0, vI x1, vI x2, vI x3] [] A3
    else
    cI (S 200 [vR 21 190 0, vI (w32 (10 + x1))] A3) fun r6 A5 =>
    if r6 = 0 then
      cI (S 149 [vL x2, vL 0, vL 1] A5) fun r8 A7 =>
      if r8 = 0 then
        go true 2 S SN pb_X12_take (n + 1) 54 [vR 21 190 0, vI x1, vI x2, vI x3] [] A7
      else
      cI (S 198 [vR 21 190 0, vI x3] A7) fun r10 A9 =>
      if r10 = 0 then
        go true 2 S SN pb_X12_take (n + 1) 54 [vR 21 190 0, vI x1, vI x2, vI x3] [] A9
      else
      cI (S 201 [vR 21 190 0, vI x3] A9) fun r12 A11 =>
      if r12 = (-1) then
        cV (S 250 [vR 21 190 0] A11) fun A13 =>
        if (0 : Int) ≤ w32 (13 + x1) ∧ w32 (13 + x1) < 146 then
          go true 2 S SN pb_X12_take (n + 0) 73 [vR 21 190 0, vI x1, vI x2, vI x3] [] (wi A13 237 ((w32 (13 + x1)).toNat) x3)
        else none
      else
      go true 2 S SN pb_X12_take (n + 1) 54 [vR 21 190 0, vI x1, vI x2, vI x3] [] A11
    else
    go true 2 S SN pb_X12_take (n + 1) 54 [vR 21 190 0, vI x1, vI x2, vI x3] [] A5 := rfl

set_option maxRecDepth 100000 in
theorem q_X12_take_54 (S SN : SX) (n : Nat) (x1 : Int) (x2 : Int) (x3 : Int) (A : AH)  : go true 2 S SN pb_X12_take (n + 1) 54 [vR 21 190 0, vI x1, vI x2, vI x3] [] A =
    cI (S 257 [vR 21 190 0] A) fun r2 A1 =>
    if r2 = 0 ∨ r2 = 1 then some (some (vI r2), A1) else
    none := rfl

set_option maxRecDepth 100000 in
theorem q_X12_take_73 (S SN : SX) (n : Nat) (x1 : Int) (x2 : Int) (x3 : Int) (A : AH)  : go true 2 S SN pb_X12_take (n + 1) 73 [vR 21 190 0, vI x1, vI x2, vI x3] [] A =
    if (0 : Int) ≤ w32 (19 + x1) ∧ w32 (19 + x1) < 146 then
      go true 2 S SN pb_X12_take (n + 0) 83 [vR 21 190 0, vI x1, vI x2, vI x3] [] (wi A 237 ((w32 (19 + x1)).toNat) x2)
    else none := rfl

set_option maxRecDepth 100000 in
theorem q_X12_take_83 (S SN : SX) (n : Nat) (x1 : Int) (x2 : Int) (x3 : Int) (A : AH)  : go true 2 S SN pb_X12_take (n + 1) 83 [vR 21 190 0, vI x1, vI x2, vI x3] [] A =
    some (some (vI 1), A) := rfl

set_option maxRecDepth 100000 in
theorem q_X12_dismiss_0 (S SN : SX) (n : Nat) (x1 : Int) (A : AH)  : go true 2 S SN pb_X12_dismiss (n + 2) 0 [vR 21 190 0, vI x1] [] A =
    cI (S 196 [vR 21 190 0] A) fun r2 A1 =>
    cI (S 149 [vL x1, vL 0, vL (w32 (r2 - 1))] A1) fun r4 A3 =>
    if r4 = 0 then
      go true 2 S SN pb_X12_dismiss (n + 1) 27 [vR 21 190 0, vI x1] [] A3
    else
    cI (S 200 [vR 21 190 0, vI (w32 (10 + x1))] A3) fun r6 A5 =>
    if r6 = 0 then
      go true 2 S SN pb_X12_dismiss (n + 1) 27 [vR 21 190 0, vI x1] [] A5
    else
    cV (S 250 [vR 21 190 0] A5) fun A7 =>
    if (0 : Int) ≤ w32 (13 + x1) ∧ w32 (13 + x1) < 146 then
      go true 2 S SN pb_X12_dismiss (n + 0) 46 [vR 21 190 0, vI x1] [] (wi A7 237 ((w32 (13 + x1)).toNat) (-1))
    else none := rfl

set_option maxRecDepth 100000 in
theorem q_X12_dismiss_27 (S SN : SX) (n : Nat) (x1 : Int) (A : AH)  : go true 2 S SN pb_X12_dismiss (n + 1) 27 [vR 21 190 0, vI x1] [] A =
    cI (S 257 [vR 21 190 0] A) fun r2 A1 =>
    if r2 = 0 ∨ r2 = 1 then some (some (vI r2), A1) else
    none := rfl

set_option maxRecDepth 100000 in
theorem q_X12_dismiss_46 (S SN : SX) (n : Nat) (x1 : Int) (A : AH)  : go true 2 S SN pb_X12_dismiss (n + 1) 46 [vR 21 190 0, vI x1] [] A =
    if (0 : Int) ≤ w32 (19 + x1) ∧ w32 (19 + x1) < 146 then
      go true 2 S SN pb_X12_dismiss (n + 0) 56 [vR 21 190 0, vI x1] [] (wi A 237 ((w32 (19 + x1)).toNat) 0)
    else none := rfl

set_option maxRecDepth 100000 in
theorem q_X12_dismiss_56 (S SN : SX) (n : Nat) (x1 : Int) (A : AH)  : go true 2 S SN pb_X12_dismiss (n + 1) 56 [vR 21 190 0, vI x1] [] A =
    some (some (vI 1), A) := rfl

set_option maxRecDepth 100000 in
theorem q_X12_qCode_0 (S SN : SX) (n : Nat) (x1 : Int) (A : AH)  : go true 3 S SN pb_X12_qCode (n + 1) 0 [vR 21 190 0, vI x1] [] A =
    if (0 : Int) ≤ gi A 190 100 ∧ gi A 190 100 < 1700 then
      go true 3 S SN pb_X12_qCode (n + 0) 10 [vR 21 190 0, vI x1] [] (wi A 267 ((gi A 190 100).toNat) x1)
    else none := rfl

set_option maxRecDepth 100000 in
theorem q_X12_qCode_10 (S SN : SX) (n : Nat) (x1 : Int) (A : AH)  : go true 3 S SN pb_X12_qCode (n + 1) 10 [vR 21 190 0, vI x1] [] A =
    go true 3 S SN pb_X12_qCode (n + 0) 20 [vR 21 190 0, vI x1] [] (wi A 190 100 (w32 ((gi A 190 100) + 1))) := rfl

set_option maxRecDepth 100000 in
theorem q_X12_qCode_20 (S SN : SX) (n : Nat) (x1 : Int) (A : AH)  : go true 3 S SN pb_X12_qCode (n + 1) 20 [vR 21 190 0, vI x1] [] A =
    some (none, A) := rfl

set_option maxRecDepth 100000 in
theorem q_X12_qOpens_0 (S SN : SX) (n : Nat) (x1 : Int) (x2 : Int) (A : AH)  : go true 3 S SN pb_X12_qOpens (n + 3) 0 [vR 21 190 0, vI x1, vI x2] [] A =
    if (gi A 190 5) = 0 then
      if (gi A 190 103) = 6 then
        cV (S 152 [vR 21 190 0, vI 4, vI x2] A) fun A1 =>
        some (none, A1)
      else
      go true 3 S SN pb_X12_qOpens (n + 0) 34 [vR 21 190 0, vI x1, vI x2] [] (wi A 190 103 (w32 ((gi A 190 103) + 1)))
    else
    some (none, A) := rfl

set_option maxRecDepth 100000 in
theorem q_X12_qOpens_34 (S SN : SX) (n : Nat) (x1 : Int) (x2 : Int) (A : AH)  : go true 3 S SN pb_X12_qOpens (n + 1) 34 [vR 21 190 0, vI x1, vI x2] [] A =
    if (0 : Int) ≤ gi A 190 102 ∧ gi A 190 102 < 1700 then
      go true 3 S SN pb_X12_qOpens (n + 0) 44 [vR 21 190 0, vI x1, vI x2] [] (wi A 268 ((gi A 190 102).toNat) x1)
    else none := rfl

set_option maxRecDepth 100000 in
theorem q_X12_qOpens_44 (S SN : SX) (n : Nat) (x1 : Int) (x2 : Int) (A : AH)  : go true 3 S SN pb_X12_qOpens (n + 1) 44 [vR 21 190 0, vI x1, vI x2] [] A =
    go true 3 S SN pb_X12_qOpens (n + 0) 54 [vR 21 190 0, vI x1, vI x2] [] (wi A 190 102 (w32 ((gi A 190 102) + 1))) := rfl

set_option maxRecDepth 100000 in
theorem q_X12_qOpens_54 (S SN : SX) (n : Nat) (x1 : Int) (x2 : Int) (A : AH)  : go true 3 S SN pb_X12_qOpens (n + 1) 54 [vR 21 190 0, vI x1, vI x2] [] A =
    some (none, A) := rfl

set_option maxRecDepth 100000 in
theorem q_X12_qIsOn_0 (S SN : SX) (n : Nat) (x1 : Int) (A : AH)  : go true 2 S SN pb_X12_qIsOn (n + 2) 0 [vR 21 190 0, vI x1] [] A =
    if 0 < (gi A 190 102) then
      if (0 : Int) ≤ w32 ((gi A 190 102) - 1) ∧ w32 ((gi A 190 102) - 1) < 1700 then
        if (gi A 268 ((w32 ((gi A 190 102) - 1)).toNat)) = x1 then
          some (some (vI 1), A)
        else
        go true 2 S SN pb_X12_qIsOn (n + 1) 26 [vR 21 190 0, vI x1] [] A
      else none
    else
    go true 2 S SN pb_X12_qIsOn (n + 1) 26 [vR 21 190 0, vI x1] [] A := rfl

set_option maxRecDepth 100000 in
theorem q_X12_qIsOn_26 (S SN : SX) (n : Nat) (x1 : Int) (A : AH)  : go true 2 S SN pb_X12_qIsOn (n + 2) 26 [vR 21 190 0, vI x1] [] A =
    some (some (vI 0), A) := rfl

set_option maxRecDepth 100000 in
theorem q_X12_qDrops_0 (S SN : SX) (n : Nat)  (A : AH)  : go true 3 S SN pb_X12_qDrops (n + 1) 0 [vR 21 190 0] [] A =
    go true 3 S SN pb_X12_qDrops (n + 0) 10 [vR 21 190 0] [] (wi A 190 102 (w32 ((gi A 190 102) - 1))) := rfl

set_option maxRecDepth 100000 in
theorem q_X12_qDrops_10 (S SN : SX) (n : Nat)  (A : AH)  : go true 3 S SN pb_X12_qDrops (n + 1) 10 [vR 21 190 0] [] A =
    if (0 : Int) ≤ gi A 190 102 ∧ gi A 190 102 < 1700 then
      cV (S 262 [vR 21 190 0, vI (gi A 268 ((gi A 190 102).toNat))] A) fun A1 =>
      some (none, A1)
    else none := rfl

set_option maxRecDepth 100000 in
theorem q_X12_qIsBracket_0 (S SN : SX) (n : Nat) (x0 : Int) (A : AH)  : go true 2 S SN pb_X12_qIsBracket (n + 2) 0 [vI x0] [] A =
    if x0 < 20 then
      go true 2 S SN pb_X12_qIsBracket (n + 1) 16 [vI x0] [] A
    else
    if 24 < x0 then
      go true 2 S SN pb_X12_qIsBracket (n + 1) 16 [vI x0] [] A
    else
    some (some (vI 1), A) := rfl

set_option maxRecDepth 100000 in
theorem q_X12_qIsBracket_16 (S SN : SX) (n : Nat) (x0 : Int) (A : AH)  : go true 2 S SN pb_X12_qIsBracket (n + 2) 16 [vI x0] [] A =
    some (some (vI 0), A) := rfl

set_option maxRecDepth 100000 in
theorem q_X12_qBracket_0 (S SN : SX) (n : Nat)  (A : AH)  : go true 0 S SN pb_X12_qBracket (n + 1) 0 [vR 21 190 0, vU] [] A =
    go true 0 S SN pb_X12_qBracket (n + 0) 7 [vR 21 190 0, vI (w32 ((gi A 190 102) - 1))] [] A := rfl

set_option maxRecDepth 100000 in
theorem q_X12_qBracket_7 (S SN : SX) (n : Nat) (x1 : Int) (A : AH)  : go true 0 S SN pb_X12_qBracket (n + 1) 7 [vR 21 190 0, vI x1] [] A =
    if x1 < (gi A 190 104) then
      go true 0 S SN pb_X12_qBracket (n + 0) 33 [vR 21 190 0, vI x1] [] A
    else
    if (0 : Int) ≤ x1 ∧ x1 < 1700 then
      cI (S 266 [vI (gi A 268 x1.toNat)] A) fun r2 A1 =>
      if r2 = 0 then
        go true 0 S SN pb_X12_qBracket (n + 0) 7 [vR 21 190 0, vI (w32 (x1 + (-1)))] [] A1
      else
      go true 0 S SN pb_X12_qBracket (n + 0) 33 [vR 21 190 0, vI x1] [] A1
    else none := rfl

set_option maxRecDepth 100000 in
theorem q_X12_qBracket_33 (S SN : SX) (n : Nat) (x1 : Int) (A : AH)  : go true 0 S SN pb_X12_qBracket (n + 3) 33 [vR 21 190 0, vI x1] [] A =
    if x1 < (gi A 190 104) then
      some (some (vI (-1)), A)
    else
    if (0 : Int) ≤ x1 ∧ x1 < 1700 then
      some (some (vI (gi A 268 x1.toNat)), A)
    else none := rfl
