set_option maxRecDepth 100000 in
theorem q_X12_qDropsToBracket_0 (S SN : SX) (n : Nat)  (A : AH)  : go true 3 S SN pb_X12_qDropsToBracket (n + 2) 0 [vR 21 190 0] [] A =
    if (gi A 190 104) < (gi A 190 102) then
      if (0 : Int) ≤ w32 ((gi A 190 102) - 1) ∧ w32 ((gi A 190 102) - 1) < 1700 then
        cI (S 266 [vI (gi A 268 ((w32 ((gi A 190 102) - 1)).toNat))] A) fun r2 A1 =>
        if r2 = 0 then
          cV (S 265 [vR 21 190 0] A1) fun A3 =>
          go true 3 S SN pb_X12_qDropsToBracket (n + 1) 0 [vR 21 190 0] [] A3
        else
        some (none, A1)
      else none
    else
    some (none, A) := rfl

set_option maxRecDepth 100000 in
theorem q_X12_qWordHere_0 (S SN : SX) (n : Nat)  (A : AH)  : go true 0 S SN pb_X12_qWordHere (n + 5) 0 [vR 21 190 0] [] A =
    cI (S 156 [vR 21 190 0, vR 32 256 5] A) fun r2 A1 =>
    if r2 = 0 then
      cI (S 156 [vR 21 190 0, vR 32 257 6] A1) fun r4 A3 =>
      if r4 = 0 then
        cI (S 156 [vR 21 190 0, vR 32 258 4] A3) fun r6 A5 =>
        if r6 = 0 then
          cI (S 156 [vR 21 190 0, vR 32 259 5] A5) fun r8 A7 =>
          if r8 = 0 then
            cI (S 156 [vR 21 190 0, vR 32 260 5] A7) fun r10 A9 =>
            if r10 = 0 then
              go true 0 S SN pb_X12_qWordHere (n + 0) 65 [vR 21 190 0] [] A9
            else
            some (some (vI 4), A9)
          else
          some (some (vI 3), A7)
        else
        some (some (vI 2), A5)
      else
      some (some (vI 1), A3)
    else
    some (some (vI 0), A1) := rfl

set_option maxRecDepth 100000 in
theorem q_X12_qWordHere_65 (S SN : SX) (n : Nat)  (A : AH)  : go true 0 S SN pb_X12_qWordHere (n + 5) 65 [vR 21 190 0] [] A =
    cI (S 156 [vR 21 190 0, vR 32 261 5] A) fun r2 A1 =>
    if r2 = 0 then
      cI (S 156 [vR 21 190 0, vR 32 262 4] A1) fun r4 A3 =>
      if r4 = 0 then
        cI (S 156 [vR 21 190 0, vR 32 263 6] A3) fun r6 A5 =>
        if r6 = 0 then
          cI (S 156 [vR 21 190 0, vR 32 264 6] A5) fun r8 A7 =>
          if r8 = 0 then
            cI (S 156 [vR 21 190 0, vR 32 265 5] A7) fun r10 A9 =>
            if r10 = 0 then
              go true 0 S SN pb_X12_qWordHere (n + 0) 134 [vR 21 190 0] [] A9
            else
            some (some (vI 9), A9)
          else
          some (some (vI 8), A7)
        else
        some (some (vI 7), A5)
      else
      some (some (vI 6), A3)
    else
    some (some (vI 5), A1) := rfl

set_option maxRecDepth 100000 in
theorem q_X12_qWordHere_134 (S SN : SX) (n : Nat)  (A : AH)  : go true 0 S SN pb_X12_qWordHere (n + 2) 134 [vR 21 190 0] [] A =
    cI (S 156 [vR 21 190 0, vR 32 266 6] A) fun r2 A1 =>
    if r2 = 0 then
      some (some (vI (-1)), A1)
    else
    some (some (vI 10), A1) := rfl

set_option maxRecDepth 100000 in
theorem q_X12_qWordOf_0 (S SN : SX) (n : Nat) (x1 : Int) (x2 : Int) (A : AH)  : go true 0 S SN pb_X12_qWordOf (n + 2) 0 [vR 21 190 0, vI x1, vI x2, vU] [] A =
    cI (S 269 [vR 21 190 0] A) fun r2 A1 =>
    if r2 < x1 then
      go true 0 S SN pb_X12_qWordOf (n + 1) 19 [vR 21 190 0, vI x1, vI x2, vI r2] [] A1
    else
    if r2 < x2 then
      some (some (vI r2), A1)
    else
    go true 0 S SN pb_X12_qWordOf (n + 1) 19 [vR 21 190 0, vI x1, vI x2, vI r2] [] A1 := rfl

set_option maxRecDepth 100000 in
theorem q_X12_qWordOf_19 (S SN : SX) (n : Nat) (x1 : Int) (x2 : Int) (x3 : Int) (A : AH)  : go true 0 S SN pb_X12_qWordOf (n + 2) 19 [vR 21 190 0, vI x1, vI x2, vI x3] [] A =
    some (some (vI (-1)), A) := rfl

set_option maxRecDepth 100000 in
theorem q_X12_qAsksWord_0 (S SN : SX) (n : Nat) (x1 : Int) (A : AH)  : go true 3 S SN pb_X12_qAsksWord (n + 3) 0 [vR 21 190 0, vI x1] [] A =
    if x1 = 0 then
      cV (S 158 [vR 21 190 0, vR 32 256 5] A) fun A1 =>
      some (none, A1)
    else
    if x1 = 1 then
      cV (S 158 [vR 21 190 0, vR 32 257 6] A) fun A2 =>
      some (none, A2)
    else
    if x1 = 2 then
      cV (S 158 [vR 21 190 0, vR 32 258 4] A) fun A3 =>
      some (none, A3)
    else
    if x1 = 3 then
      cV (S 158 [vR 21 190 0, vR 32 259 5] A) fun A4 =>
      some (none, A4)
    else
    if x1 = 4 then
      cV (S 158 [vR 21 190 0, vR 32 260 5] A) fun A5 =>
      some (none, A5)
    else
    if x1 = 5 then
      cV (S 158 [vR 21 190 0, vR 32 261 5] A) fun A6 =>
      some (none, A6)
    else
    if x1 = 6 then
      cV (S 158 [vR 21 190 0, vR 32 262 4] A) fun A7 =>
      some (none, A7)
    else
    if x1 = 7 then
      cV (S 158 [vR 21 190 0, vR 32 263 6] A) fun A8 =>
      some (none, A8)
    else
    if x1 = 8 then
      cV (S 158 [vR 21 190 0, vR 32 264 6] A) fun A9 =>
      some (none, A9)
    else
    if x1 = 9 then
      cV (S 158 [vR 21 190 0, vR 32 265 5] A) fun A10 =>
      some (none, A10)
    else
    cV (S 158 [vR 21 190 0, vR 32 266 6] A) fun A11 =>
    some (none, A11) := rfl

set_option maxRecDepth 100000 in
theorem q_X12_qEndsPart_0 (S SN : SX) (n : Nat)  (A : AH)  : go true 3 S SN pb_X12_qEndsPart (n + 2) 0 [vR 21 190 0] [] A =
    if (gi A 190 5) = 0 then
      if (gi A 190 104) < (gi A 190 102) then
        if (0 : Int) ≤ w32 ((gi A 190 102) - 1) ∧ w32 ((gi A 190 102) - 1) < 1700 then
          if (gi A 268 ((w32 ((gi A 190 102) - 1)).toNat)) < 60 then
            some (none, A)
          else
          go true 3 S SN pb_X12_qEndsPart (n + 1) 44 [vR 21 190 0] [] (wi A 190 103 (w32 ((gi A 190 103) - 1)))
        else none
      else
      some (none, A)
    else
    some (none, A) := rfl

set_option maxRecDepth 100000 in
theorem q_X12_qEndsPart_44 (S SN : SX) (n : Nat)  (A : AH)  : go true 3 S SN pb_X12_qEndsPart (n + 1) 44 [vR 21 190 0] [] A =
    cV (S 265 [vR 21 190 0] A) fun A1 =>
    go true 3 S SN pb_X12_qEndsPart (n + 0) 0 [vR 21 190 0] [] A1 := rfl

set_option maxRecDepth 100000 in
theorem q_X12_qPartTold_0 (S SN : SX) (n : Nat)  (A : AH)  : go true 3 S SN pb_X12_qPartTold (n + 1) 0 [vR 21 190 0, vU, vU, vU, vU, vU] [] A =
    go true 3 S SN pb_X12_qPartTold (n + 0) 2 [vR 21 190 0, vI 1, vU, vU, vU, vU] [] A := rfl

set_option maxRecDepth 100000 in
theorem q_X12_qPartTold_2 (S SN : SX) (n : Nat) (x1 : Int) (u2 : AV) (u3 : AV) (u4 : AV) (u5 : AV) (A : AH)  : go true 3 S SN pb_X12_qPartTold (n + 2) 2 [vR 21 190 0, vI x1, u2, u3, u4, u5] [] A =
    if x1 = 0 then
      go true 3 S SN pb_X12_qPartTold (n + 1) 186 [vR 21 190 0, vI x1, u2, u3, u4, u5] [] A
    else
    if (gi A 190 5) = 0 then
      cI (S 155 [vR 21 190 0] A) fun r2 A1 =>
      cI (S 270 [vR 21 190 0, vI 10, vI 11] A1) fun r4 A3 =>
      if r2 = 40 then
        cV (S 263 [vR 21 190 0, vI 20, vI (gi A3 190 2)] A3) fun A5 =>
        go true 3 S SN pb_X12_qPartTold (n + 1) 53 [vR 21 190 0, vI x1, vI r2, vI r4, u4, u5] [] (wi A5 190 2 (w32 ((gi A5 190 2) + 1)))
      else
      cI (S 156 [vR 21 190 0, vR 32 254 3] A3) fun r7 A6 =>
      if r7 = 0 then
        cI (S 156 [vR 21 190 0, vR 32 255 3] A6) fun r9 A8 =>
        if r9 = 0 then
          go true 3 S SN pb_X12_qPartTold (n + 0) 153 [vR 21 190 0, vI x1, vI r2, vI r4, u4, u5] [] A8
        else
        go true 3 S SN pb_X12_qPartTold (n + 0) 78 [vR 21 190 0, vI x1, vI r2, vI r4, u4, u5] [] A8
      else
      go true 3 S SN pb_X12_qPartTold (n + 0) 78 [vR 21 190 0, vI x1, vI r2, vI r4, u4, u5] [] A6
    else
    go true 3 S SN pb_X12_qPartTold (n + 1) 186 [vR 21 190 0, vI x1, u2, u3, u4, u5] [] A := rfl

set_option maxRecDepth 100000 in
theorem q_X12_qPartTold_53 (S SN : SX) (n : Nat) (x1 : Int) (x2 : Int) (x3 : Int) (u4 : AV) (u5 : AV) (A : AH)  : go true 3 S SN pb_X12_qPartTold (n + 1) 53 [vR 21 190 0, vI x1, vI x2, vI x3, u4, u5] [] A =
    go true 3 S SN pb_X12_qPartTold (n + 0) 183 [vR 21 190 0, vI x1, vI x2, vI x3, u4, u5] [] A := rfl

set_option maxRecDepth 100000 in
theorem q_X12_qPartTold_78 (S SN : SX) (n : Nat) (x1 : Int) (x2 : Int) (x3 : Int) (u4 : AV) (u5 : AV) (A : AH)  : go true 3 S SN pb_X12_qPartTold (n + 1) 78 [vR 21 190 0, vI x1, vI x2, vI x3, u4, u5] [] A =
    cI (S 157 [vR 21 190 0, vR 32 254 3] A) fun r2 A1 =>
    if r2 = 0 then
      cV (S 158 [vR 21 190 0, vR 32 255 3] A1) fun A3 =>
      go true 3 S SN pb_X12_qPartTold (n + 0) 101 [vR 21 190 0, vI x1, vI x2, vI x3, vI r2, u5] [] A3
    else
    go true 3 S SN pb_X12_qPartTold (n + 0) 101 [vR 21 190 0, vI x1, vI x2, vI x3, vI r2, u5] [] A1 := rfl

set_option maxRecDepth 100000 in
theorem q_X12_qPartTold_101 (S SN : SX) (n : Nat) (x1 : Int) (x2 : Int) (x3 : Int) (x4 : Int) (u5 : AV) (A : AH)  : go true 3 S SN pb_X12_qPartTold (n + 2) 101 [vR 21 190 0, vI x1, vI x2, vI x3, vI x4, u5] [] A =
    cI (S 155 [vR 21 190 0] A) fun r2 A1 =>
    if r2 = 40 then
      go true 3 S SN pb_X12_qPartTold (n + 1) 118 [vR 21 190 0, vI x1, vI x2, vI x3, vI x4, u5] [vI (gi A1 190 2)] A1
    else
    go true 3 S SN pb_X12_qPartTold (n + 0) 118 [vR 21 190 0, vI x1, vI x2, vI x3, vI x4, u5] [vI (-1)] A1 := rfl

set_option maxRecDepth 100000 in
theorem q_X12_qPartTold_118 (S SN : SX) (n : Nat) (x1 : Int) (x2 : Int) (x3 : Int) (x4 : Int) (u5 : AV) (sx0 : Int) (A : AH)  : go true 3 S SN pb_X12_qPartTold (n + 2) 118 [vR 21 190 0, vI x1, vI x2, vI x3, vI x4, u5] [vI sx0] A =
    if sx0 = (-1) then
      go true 3 S SN pb_X12_qPartTold (n + 1) 144 [vR 21 190 0, vI x1, vI x2, vI x3, vI x4, vI sx0] [] A
    else
    if x4 = 0 then
      go true 3 S SN pb_X12_qPartTold (n + 0) 139 [vR 21 190 0, vI x1, vI x2, vI x3, vI x4, vI sx0] [vI 22, vR 21 190 0] A
    else
    go true 3 S SN pb_X12_qPartTold (n + 1) 139 [vR 21 190 0, vI x1, vI x2, vI x3, vI x4, vI sx0] [vI 21, vR 21 190 0] A := rfl

set_option maxRecDepth 100000 in
theorem q_X12_qPartTold_139 (S SN : SX) (n : Nat) (x1 : Int) (x2 : Int) (x3 : Int) (x4 : Int) (x5 : Int) (sx0 : Int) (A : AH)  : go true 3 S SN pb_X12_qPartTold (n + 1) 139 [vR 21 190 0, vI x1, vI x2, vI x3, vI x4, vI x5] [vI sx0, vR 21 190 0] A =
    cV (S 263 [vR 21 190 0, vI sx0, vI x5] A) fun A1 =>
    go true 3 S SN pb_X12_qPartTold (n + 0) 144 [vR 21 190 0, vI x1, vI x2, vI x3, vI x4, vI x5] [] A1 := rfl

set_option maxRecDepth 100000 in
theorem q_X12_qPartTold_144 (S SN : SX) (n : Nat) (x1 : Int) (x2 : Int) (x3 : Int) (x4 : Int) (x5 : Int) (A : AH)  : go true 3 S SN pb_X12_qPartTold (n + 1) 144 [vR 21 190 0, vI x1, vI x2, vI x3, vI x4, vI x5] [] A =
    cV (S 160 [vR 21 190 0, vI 40] A) fun A1 =>
    go true 3 S SN pb_X12_qPartTold (n + 0) 183 [vR 21 190 0, vI x1, vI x2, vI x3, vI x4, vI x5] [] A1 := rfl

set_option maxRecDepth 100000 in
theorem q_X12_qPartTold_153 (S SN : SX) (n : Nat) (x1 : Int) (x2 : Int) (x3 : Int) (u4 : AV) (u5 : AV) (A : AH)  : go true 3 S SN pb_X12_qPartTold (n + 2) 153 [vR 21 190 0, vI x1, vI x2, vI x3, u4, u5] [] A =
    if x3 = (-1) then
      go true 3 S SN pb_X12_qPartTold (n + 0) 183 [vR 21 190 0, vI 0, vI x2, vI x3, u4, u5] [] A
    else
    cV (S 263 [vR 21 190 0, vI (w32 ((w32 (60 + x3)) - 10)), vI (gi A 190 2)] A) fun A1 =>
    cV (S 271 [vR 21 190 0, vI x3] A1) fun A2 =>
    go true 3 S SN pb_X12_qPartTold (n + 1) 183 [vR 21 190 0, vI x1, vI x2, vI x3, u4, u5] [] A2 := rfl

set_option maxRecDepth 100000 in
theorem q_X12_qPartTold_183 (S SN : SX) (n : Nat) (x1 : Int) (x2 : Int) (x3 : Int) (u4 : AV) (u5 : AV) (A : AH)  : go true 3 S SN pb_X12_qPartTold (n + 1) 183 [vR 21 190 0, vI x1, vI x2, vI x3, u4, u5] [] A =
    go true 3 S SN pb_X12_qPartTold (n + 0) 2 [vR 21 190 0, vI x1, vI x2, vI x3, u4, u5] [] A := rfl

set_option maxRecDepth 100000 in
theorem q_X12_qPartTold_186 (S SN : SX) (n : Nat) (x1 : Int) (u2 : AV) (u3 : AV) (u4 : AV) (u5 : AV) (A : AH)  : go true 3 S SN pb_X12_qPartTold (n + 2) 186 [vR 21 190 0, vI x1, u2, u3, u4, u5] [] A =
    if (gi A 190 5) = 0 then
      cI (S 270 [vR 21 190 0, vI 0, vI 10] A) fun r2 A1 =>
      if r2 = (-1) then
        go true 3 S SN pb_X12_qPartTold (n + 0) 212 [vR 21 190 0, vI x1, vI r2, u3, u4, u5] [] A1
      else
      cV (S 271 [vR 21 190 0, vI r2] A1) fun A3 =>
      go true 3 S SN pb_X12_qPartTold (n + 0) 212 [vR 21 190 0, vI x1, vI r2, u3, u4, u5] [] A3
    else
    some (none, A) := rfl

set_option maxRecDepth 100000 in
theorem q_X12_qPartTold_212 (S SN : SX) (n : Nat) (x1 : Int) (x2 : Int) (u3 : AV) (u4 : AV) (u5 : AV) (A : AH)  : go true 3 S SN pb_X12_qPartTold (n + 2) 212 [vR 21 190 0, vI x1, vI x2, u3, u4, u5] [] A =
    if x2 = (-1) then
      cI (S 161 [vR 21 190 0, vI 0, vI 9999] A) fun r2 A1 =>
      go true 3 S SN pb_X12_qPartTold (n + 0) 237 [vR 21 190 0, vI x1, vI x2, u3, u4, u5] [vI (w32 (1000 + r2)), vR 21 190 0] A1
    else
    go true 3 S SN pb_X12_qPartTold (n + 1) 237 [vR 21 190 0, vI x1, vI x2, u3, u4, u5] [vI (w32 (40 + x2)), vR 21 190 0] A := rfl

set_option maxRecDepth 100000 in
theorem q_X12_qPartTold_237 (S SN : SX) (n : Nat) (x1 : Int) (x2 : Int) (u3 : AV) (u4 : AV) (u5 : AV) (sx0 : Int) (A : AH)  : go true 3 S SN pb_X12_qPartTold (n + 1) 237 [vR 21 190 0, vI x1, vI x2, u3, u4, u5] [vI sx0, vR 21 190 0] A =
    cV (S 262 [vR 21 190 0, vI sx0] A) fun A1 =>
    cV (S 272 [vR 21 190 0] A1) fun A2 =>
    some (none, A2) := rfl

set_option maxRecDepth 100000 in
theorem q_X12_qGoesOn_0 (S SN : SX) (n : Nat)  (A : AH)  : go true 2 S SN pb_X12_qGoesOn (n + 1) 0 [vR 21 190 0, vU] [] A =
    if (gi A 190 5) = 0 then
      cI (S 155 [vR 21 190 0] A) fun r2 A1 =>
      if r2 = 41 then
        cI (S 267 [vR 21 190 0] A1) fun r4 A3 =>
        if r4 = 20 then
          go true 2 S SN pb_X12_qGoesOn (n + 0) 43 [vR 21 190 0, vU] [] A3
        else
        cI (S 267 [vR 21 190 0] A3) fun r6 A5 =>
        if r6 = 23 then
          go true 2 S SN pb_X12_qGoesOn (n + 0) 43 [vR 21 190 0, vU] [] A5
        else
        cI (S 267 [vR 21 190 0] A5) fun r8 A7 =>
        if r8 = 24 then
          go true 2 S SN pb_X12_qGoesOn (n + 0) 43 [vR 21 190 0, vU] [] A7
        else
        go true 2 S SN pb_X12_qGoesOn (n + 0) 122 [vR 21 190 0, vU] [] A7
      else
      go true 2 S SN pb_X12_qGoesOn (n + 0) 122 [vR 21 190 0, vU] [] A1
    else
    go true 2 S SN pb_X12_qGoesOn (n + 0) 122 [vR 21 190 0, vU] [] A := rfl

set_option maxRecDepth 100000 in
theorem q_X12_qGoesOn_43 (S SN : SX) (n : Nat) (u1 : AV) (A : AH)  : go true 2 S SN pb_X12_qGoesOn (n + 1) 43 [vR 21 190 0, u1] [] A =
    go true 2 S SN pb_X12_qGoesOn (n + 0) 53 [vR 21 190 0, u1] [] (wi A 190 2 (w32 ((gi A 190 2) + 1))) := rfl

set_option maxRecDepth 100000 in
theorem q_X12_qGoesOn_53 (S SN : SX) (n : Nat) (u1 : AV) (A : AH)  : go true 2 S SN pb_X12_qGoesOn (n + 1) 53 [vR 21 190 0, u1] [] A =
    cV (S 268 [vR 21 190 0] A) fun A1 =>
    go true 2 S SN pb_X12_qGoesOn (n + 0) 67 [vR 21 190 0, u1] [] (wi A1 190 102 (w32 ((gi A1 190 102) - 1))) := rfl

set_option maxRecDepth 100000 in
theorem q_X12_qGoesOn_67 (S SN : SX) (n : Nat) (u1 : AV) (A : AH)  : go true 2 S SN pb_X12_qGoesOn (n + 1) 67 [vR 21 190 0, u1] [] A =
    go true 2 S SN pb_X12_qGoesOn (n + 0) 77 [vR 21 190 0, u1] [] (wi A 190 103 (w32 ((gi A 190 103) - 1))) := rfl

set_option maxRecDepth 100000 in
theorem q_X12_qGoesOn_77 (S SN : SX) (n : Nat) (u1 : AV) (A : AH)  : go true 2 S SN pb_X12_qGoesOn (n + 2) 77 [vR 21 190 0, u1] [] A =
    if (0 : Int) ≤ gi A 190 102 ∧ gi A 190 102 < 1700 then
      if (gi A 268 ((gi A 190 102).toNat)) = 20 then
        go true 2 S SN pb_X12_qGoesOn (n + 1) 115 [vR 21 190 0, u1] [] A
      else
      if (0 : Int) ≤ gi A 190 102 ∧ gi A 190 102 < 1700 then
        if (gi A 268 ((gi A 190 102).toNat)) = 23 then
          go true 2 S SN pb_X12_qGoesOn (n + 1) 112 [vR 21 190 0, u1] [vI 5, vR 21 190 0] A
        else
        go true 2 S SN pb_X12_qGoesOn (n + 0) 112 [vR 21 190 0, u1] [vI 6, vR 21 190 0] A
      else none
    else none := rfl

set_option maxRecDepth 100000 in
theorem q_X12_qGoesOn_112 (S SN : SX) (n : Nat) (u1 : AV) (sx0 : Int) (A : AH)  : go true 2 S SN pb_X12_qGoesOn (n + 1) 112 [vR 21 190 0, u1] [vI sx0, vR 21 190 0] A =
    cV (S 262 [vR 21 190 0, vI sx0] A) fun A1 =>
    go true 2 S SN pb_X12_qGoesOn (n + 0) 115 [vR 21 190 0, u1] [] A1 := rfl

set_option maxRecDepth 100000 in
theorem q_X12_qGoesOn_115 (S SN : SX) (n : Nat) (u1 : AV) (A : AH)  : go true 2 S SN pb_X12_qGoesOn (n + 1) 115 [vR 21 190 0, u1] [] A =
    cV (S 272 [vR 21 190 0] A) fun A1 =>
    go true 2 S SN pb_X12_qGoesOn (n + 0) 0 [vR 21 190 0, u1] [] A1 := rfl

set_option maxRecDepth 100000 in
theorem q_X12_qGoesOn_122 (S SN : SX) (n : Nat) (u1 : AV) (A : AH)  : go true 2 S SN pb_X12_qGoesOn (n + 5) 122 [vR 21 190 0, u1] [] A =
    cI (S 159 [vR 21 190 0, vI 42] A) fun r2 A1 =>
    if r2 = 0 then
      cI (S 159 [vR 21 190 0, vI 47] A1) fun r4 A3 =>
      if r4 = 0 then
        cI (S 159 [vR 21 190 0, vI 43] A3) fun r6 A5 =>
        if r6 = 0 then
          cI (S 159 [vR 21 190 0, vI 45] A5) fun r8 A7 =>
          if r8 = 0 then
            cI (S 267 [vR 21 190 0] A7) fun r10 A9 =>
            if r10 = 21 then
              go true 2 S SN pb_X12_qGoesOn (n + 2) 326 [vR 21 190 0, u1] [] A9
            else
            cI (S 267 [vR 21 190 0] A9) fun r12 A11 =>
            if r12 = 22 then
              go true 2 S SN pb_X12_qGoesOn (n + 2) 326 [vR 21 190 0, u1] [] A11
            else
            cI (S 267 [vR 21 190 0] A11) fun r14 A13 =>
            if r14 = (-1) then
              some (some (vI 0), A13)
            else
            if (gi A13 190 5) = 0 then
              cV (S 152 [vR 21 190 0, vI 1, vI (gi A13 190 2)] A13) fun A15 =>
              some (some (vI 0), A15)
            else
            some (some (vI 0), A13)
          else
          go true 2 S SN pb_X12_qGoesOn (n + 3) 225 [vR 21 190 0, u1] [] A7
        else
        go true 2 S SN pb_X12_qGoesOn (n + 3) 225 [vR 21 190 0, u1] [] A5
      else
      go true 2 S SN pb_X12_qGoesOn (n + 4) 140 [vR 21 190 0, u1] [] A3
    else
    go true 2 S SN pb_X12_qGoesOn (n + 4) 140 [vR 21 190 0, u1] [] A1 := rfl

set_option maxRecDepth 100000 in
theorem q_X12_qGoesOn_140 (S SN : SX) (n : Nat) (u1 : AV) (A : AH)  : go true 2 S SN pb_X12_qGoesOn (n + 2) 140 [vR 21 190 0, u1] [] A =
    if (0 : Int) ≤ w32 ((gi A 190 2) - 1) ∧ w32 ((gi A 190 2) - 1) < 1600 then
      if (gi A 191 ((w32 ((gi A 190 2) - 1)).toNat)) = 42 then
        go true 2 S SN pb_X12_qGoesOn (n + 1) 161 [vR 21 190 0, u1] [vI 3] A
      else
      go true 2 S SN pb_X12_qGoesOn (n + 0) 161 [vR 21 190 0, u1] [vI 4] A
    else none := rfl

set_option maxRecDepth 100000 in
theorem q_X12_qGoesOn_161 (S SN : SX) (n : Nat) (u1 : AV) (sx0 : Int) (A : AH)  : go true 2 S SN pb_X12_qGoesOn (n + 1) 161 [vR 21 190 0, u1] [vI sx0] A =
    go true 2 S SN pb_X12_qGoesOn (n + 0) 162 [vR 21 190 0, vI sx0] [] A := rfl

set_option maxRecDepth 100000 in
theorem q_X12_qGoesOn_162 (S SN : SX) (n : Nat) (x1 : Int) (A : AH)  : go true 2 S SN pb_X12_qGoesOn (n + 2) 162 [vR 21 190 0, vI x1] [] A =
    cI (S 264 [vR 21 190 0, vI 3] A) fun r2 A1 =>
    if r2 = 0 then
      cI (S 264 [vR 21 190 0, vI 4] A1) fun r4 A3 =>
      if r4 = 0 then
        if (0 : Int) ≤ gi A3 190 102 ∧ gi A3 190 102 < 1700 then
          go true 2 S SN pb_X12_qGoesOn (n + 0) 195 [vR 21 190 0, vI x1] [] (wi A3 268 ((gi A3 190 102).toNat) x1)
        else none
      else
      go true 2 S SN pb_X12_qGoesOn (n + 1) 178 [vR 21 190 0, vI x1] [] A3
    else
    go true 2 S SN pb_X12_qGoesOn (n + 1) 178 [vR 21 190 0, vI x1] [] A1 := rfl

set_option maxRecDepth 100000 in
theorem q_X12_qGoesOn_178 (S SN : SX) (n : Nat) (x1 : Int) (A : AH)  : go true 2 S SN pb_X12_qGoesOn (n + 1) 178 [vR 21 190 0, vI x1] [] A =
    cV (S 265 [vR 21 190 0] A) fun A1 =>
    go true 2 S SN pb_X12_qGoesOn (n + 0) 162 [vR 21 190 0, vI x1] [] A1 := rfl

set_option maxRecDepth 100000 in
theorem q_X12_qGoesOn_195 (S SN : SX) (n : Nat) (x1 : Int) (A : AH)  : go true 2 S SN pb_X12_qGoesOn (n + 1) 195 [vR 21 190 0, vI x1] [] A =
    go true 2 S SN pb_X12_qGoesOn (n + 0) 205 [vR 21 190 0, vI x1] [] (wi A 190 102 (w32 ((gi A 190 102) + 1))) := rfl

set_option maxRecDepth 100000 in
theorem q_X12_qGoesOn_205 (S SN : SX) (n : Nat) (x1 : Int) (A : AH)  : go true 2 S SN pb_X12_qGoesOn (n + 1) 205 [vR 21 190 0, vI x1] [] A =
    some (some (vI 1), A) := rfl

set_option maxRecDepth 100000 in
theorem q_X12_qGoesOn_225 (S SN : SX) (n : Nat) (u1 : AV) (A : AH)  : go true 2 S SN pb_X12_qGoesOn (n + 2) 225 [vR 21 190 0, u1] [] A =
    if (0 : Int) ≤ w32 ((gi A 190 2) - 1) ∧ w32 ((gi A 190 2) - 1) < 1600 then
      if (gi A 191 ((w32 ((gi A 190 2) - 1)).toNat)) = 43 then
        go true 2 S SN pb_X12_qGoesOn (n + 1) 246 [vR 21 190 0, u1] [vI 1] A
      else
      go true 2 S SN pb_X12_qGoesOn (n + 0) 246 [vR 21 190 0, u1] [vI 2] A
    else none := rfl

set_option maxRecDepth 100000 in
theorem q_X12_qGoesOn_246 (S SN : SX) (n : Nat) (u1 : AV) (sx0 : Int) (A : AH)  : go true 2 S SN pb_X12_qGoesOn (n + 1) 246 [vR 21 190 0, u1] [vI sx0] A =
    go true 2 S SN pb_X12_qGoesOn (n + 0) 247 [vR 21 190 0, vI sx0] [] A := rfl

set_option maxRecDepth 100000 in
theorem q_X12_qGoesOn_247 (S SN : SX) (n : Nat) (x1 : Int) (A : AH)  : go true 2 S SN pb_X12_qGoesOn (n + 2) 247 [vR 21 190 0, vI x1] [] A =
    cI (S 264 [vR 21 190 0, vI 3] A) fun r2 A1 =>
    if r2 = 0 then
      cI (S 264 [vR 21 190 0, vI 4] A1) fun r4 A3 =>
      if r4 = 0 then
        cI (S 264 [vR 21 190 0, vI 1] A3) fun r6 A5 =>
        if r6 = 0 then
          cI (S 264 [vR 21 190 0, vI 2] A5) fun r8 A7 =>
          if r8 = 0 then
            if (0 : Int) ≤ gi A7 190 102 ∧ gi A7 190 102 < 1700 then
              go true 2 S SN pb_X12_qGoesOn (n + 0) 296 [vR 21 190 0, vI x1] [] (wi A7 268 ((gi A7 190 102).toNat) x1)
            else none
          else
          go true 2 S SN pb_X12_qGoesOn (n + 1) 279 [vR 21 190 0, vI x1] [] A7
        else
        go true 2 S SN pb_X12_qGoesOn (n + 1) 279 [vR 21 190 0, vI x1] [] A5
      else
      go true 2 S SN pb_X12_qGoesOn (n + 1) 279 [vR 21 190 0, vI x1] [] A3
    else
    go true 2 S SN pb_X12_qGoesOn (n + 1) 279 [vR 21 190 0, vI x1] [] A1 := rfl

set_option maxRecDepth 100000 in
theorem q_X12_qGoesOn_279 (S SN : SX) (n : Nat) (x1 : Int) (A : AH)  : go true 2 S SN pb_X12_qGoesOn (n + 1) 279 [vR 21 190 0, vI x1] [] A =
    cV (S 265 [vR 21 190 0] A) fun A1 =>
    go true 2 S SN pb_X12_qGoesOn (n + 0) 247 [vR 21 190 0, vI x1] [] A1 := rfl

set_option maxRecDepth 100000 in
theorem q_X12_qGoesOn_296 (S SN : SX) (n : Nat) (x1 : Int) (A : AH)  : go true 2 S SN pb_X12_qGoesOn (n + 1) 296 [vR 21 190 0, vI x1] [] A =
    go true 2 S SN pb_X12_qGoesOn (n + 0) 306 [vR 21 190 0, vI x1] [] (wi A 190 102 (w32 ((gi A 190 102) + 1))) := rfl

set_option maxRecDepth 100000 in
theorem q_X12_qGoesOn_306 (S SN : SX) (n : Nat) (x1 : Int) (A : AH)  : go true 2 S SN pb_X12_qGoesOn (n + 1) 306 [vR 21 190 0, vI x1] [] A =
    some (some (vI 1), A) := rfl

set_option maxRecDepth 100000 in
theorem q_X12_qGoesOn_326 (S SN : SX) (n : Nat) (u1 : AV) (A : AH)  : go true 2 S SN pb_X12_qGoesOn (n + 2) 326 [vR 21 190 0, u1] [] A =
    cV (S 160 [vR 21 190 0, vI 44] A) fun A1 =>
    if (gi A1 190 5) = 0 then
      cV (S 268 [vR 21 190 0] A1) fun A2 =>
      if (0 : Int) ≤ w32 ((gi A2 190 102) - 1) ∧ w32 ((gi A2 190 102) - 1) < 1700 then
        if (0 : Int) ≤ w32 ((gi A2 190 102) - 1) ∧ w32 ((gi A2 190 102) - 1) < 1700 then
          go true 2 S SN pb_X12_qGoesOn (n + 0) 360 [vR 21 190 0, u1] [] (wi A2 268 ((w32 ((gi A2 190 102) - 1)).toNat) (w32 ((gi A2 268 ((w32 ((gi A2 190 102) - 1)).toNat)) + 2)))
        else none
      else none
    else
    some (some (vI 0), A1) := rfl

set_option maxRecDepth 100000 in
theorem q_X12_qGoesOn_360 (S SN : SX) (n : Nat) (u1 : AV) (A : AH)  : go true 2 S SN pb_X12_qGoesOn (n + 1) 360 [vR 21 190 0, u1] [] A =
    some (some (vI 1), A) := rfl

set_option maxRecDepth 100000 in
theorem q_X12_qSums_0 (S SN : SX) (n : Nat)  (A : AH)  : go true 3 S SN pb_X12_qSums (n + 1) 0 [vR 21 190 0, vU, vU] [] A =
    go true 3 S SN pb_X12_qSums (n + 0) 13 [vR 21 190 0, vI (gi A 190 104), vU] [] (wi A 190 104 (gi A 190 102)) := rfl

set_option maxRecDepth 100000 in
theorem q_X12_qSums_13 (S SN : SX) (n : Nat) (x1 : Int) (u2 : AV) (A : AH)  : go true 3 S SN pb_X12_qSums (n + 1) 13 [vR 21 190 0, vI x1, u2] [] A =
    go true 3 S SN pb_X12_qSums (n + 0) 15 [vR 21 190 0, vI x1, vI 1] [] A := rfl

set_option maxRecDepth 100000 in
theorem q_X12_qSums_15 (S SN : SX) (n : Nat) (x1 : Int) (x2 : Int) (A : AH)  : go true 3 S SN pb_X12_qSums (n + 1) 15 [vR 21 190 0, vI x1, vI x2] [] A =
    if x2 = 0 then
      go true 3 S SN pb_X12_qSums (n + 0) 53 [vR 21 190 0, vI x1, vI x2] [] A
    else
    if (gi A 190 5) = 0 then
      cV (S 273 [vR 21 190 0] A) fun A1 =>
      if (gi A1 190 5) = 0 then
        cI (S 274 [vR 21 190 0] A1) fun r3 A2 =>
        if r3 = 0 then
          go true 3 S SN pb_X12_qSums (n + 0) 48 [vR 21 190 0, vI x1, vI x2] [] A2
        else
        go true 3 S SN pb_X12_qSums (n + 0) 49 [vR 21 190 0, vI x1, vI x2] [vI 1] A2
      else
      go true 3 S SN pb_X12_qSums (n + 0) 48 [vR 21 190 0, vI x1, vI x2] [] A1
    else
    go true 3 S SN pb_X12_qSums (n + 0) 53 [vR 21 190 0, vI x1, vI x2] [] A := rfl

set_option maxRecDepth 100000 in
theorem q_X12_qSums_48 (S SN : SX) (n : Nat) (x1 : Int) (x2 : Int) (A : AH)  : go true 3 S SN pb_X12_qSums (n + 1) 48 [vR 21 190 0, vI x1, vI x2] [] A =
    go true 3 S SN pb_X12_qSums (n + 0) 49 [vR 21 190 0, vI x1, vI x2] [vI 0] A := rfl

set_option maxRecDepth 100000 in
theorem q_X12_qSums_49 (S SN : SX) (n : Nat) (x1 : Int) (x2 : Int) (sx0 : Int) (A : AH)  : go true 3 S SN pb_X12_qSums (n + 1) 49 [vR 21 190 0, vI x1, vI x2] [vI sx0] A =
    go true 3 S SN pb_X12_qSums (n + 0) 15 [vR 21 190 0, vI x1, vI sx0] [] A := rfl

set_option maxRecDepth 100000 in
theorem q_X12_qSums_53 (S SN : SX) (n : Nat) (x1 : Int) (x2 : Int) (A : AH)  : go true 3 S SN pb_X12_qSums (n + 1) 53 [vR 21 190 0, vI x1, vI x2] [] A =
    if (gi A 190 5) = 0 then
      if (gi A 190 104) < (gi A 190 102) then
        cV (S 265 [vR 21 190 0] A) fun A1 =>
        go true 3 S SN pb_X12_qSums (n + 0) 53 [vR 21 190 0, vI x1, vI x2] [] A1
      else
      go true 3 S SN pb_X12_qSums (n + 0) 78 [vR 21 190 0, vI x1, vI x2] [] A
    else
    go true 3 S SN pb_X12_qSums (n + 0) 78 [vR 21 190 0, vI x1, vI x2] [] A := rfl

set_option maxRecDepth 100000 in
theorem q_X12_qSums_78 (S SN : SX) (n : Nat) (x1 : Int) (x2 : Int) (A : AH)  : go true 3 S SN pb_X12_qSums (n + 1) 78 [vR 21 190 0, vI x1, vI x2] [] A =
    some (none, wi A 190 104 x1) := rfl

set_option maxRecDepth 100000 in
theorem q_X12_qFact_0 (S SN : SX) (n : Nat)  (A : AH)  : go true 3 S SN pb_X12_qFact (n + 3) 0 [vR 21 190 0, vU] [] A =
    cI (S 157 [vR 21 190 0, vR 32 253 3] A) fun r2 A1 =>
    if r2 = 0 then
      cV (S 275 [vR 21 190 0] A1) fun A4 =>
      if (gi A4 190 5) = 0 then
        cI (S 155 [vR 21 190 0] A4) fun r6 A5 =>
        if r6 = 60 then
          go true 3 S SN pb_X12_qFact (n + 0) 63 [vR 21 190 0, vI r6] [] A5
        else
        if r6 = 62 then
          go true 3 S SN pb_X12_qFact (n + 0) 63 [vR 21 190 0, vI r6] [] A5
        else
        if r6 = 61 then
          go true 3 S SN pb_X12_qFact (n + 0) 63 [vR 21 190 0, vI r6] [] A5
        else
        cV (S 152 [vR 21 190 0, vI 1, vI (gi A5 190 2)] A5) fun A7 =>
        some (none, A7)
      else
      some (none, A4)
    else
    cV (S 262 [vR 21 190 0, vI 13] A1) fun A3 =>
    some (none, A3) := rfl

set_option maxRecDepth 100000 in
theorem q_X12_qFact_63 (S SN : SX) (n : Nat) (x1 : Int) (A : AH)  : go true 3 S SN pb_X12_qFact (n + 1) 63 [vR 21 190 0, vI x1] [] A =
    go true 3 S SN pb_X12_qFact (n + 0) 73 [vR 21 190 0, vI x1] [] (wi A 190 2 (w32 ((gi A 190 2) + 1))) := rfl

set_option maxRecDepth 100000 in
theorem q_X12_qFact_73 (S SN : SX) (n : Nat) (x1 : Int) (A : AH)  : go true 3 S SN pb_X12_qFact (n + 3) 73 [vR 21 190 0, vI x1] [] A =
    cV (S 275 [vR 21 190 0] A) fun A1 =>
    if x1 = 60 then
      go true 3 S SN pb_X12_qFact (n + 2) 102 [vR 21 190 0, vI x1] [vI 7, vR 21 190 0] A1
    else
    if x1 = 62 then
      go true 3 S SN pb_X12_qFact (n + 1) 102 [vR 21 190 0, vI x1] [vI 8, vR 21 190 0] A1
    else
    go true 3 S SN pb_X12_qFact (n + 0) 102 [vR 21 190 0, vI x1] [vI 9, vR 21 190 0] A1 := rfl

set_option maxRecDepth 100000 in
theorem q_X12_qFact_102 (S SN : SX) (n : Nat) (x1 : Int) (sx0 : Int) (A : AH)  : go true 3 S SN pb_X12_qFact (n + 1) 102 [vR 21 190 0, vI x1] [vI sx0, vR 21 190 0] A =
    cV (S 262 [vR 21 190 0, vI sx0] A) fun A1 =>
    some (none, A1) := rfl

set_option maxRecDepth 100000 in
theorem q_X12_qHasSquare_0 (S SN : SX) (n : Nat)  (A : AH)  : go true 2 S SN pb_X12_qHasSquare (n + 1) 0 [vR 21 190 0, vU] [] A =
    go true 2 S SN pb_X12_qHasSquare (n + 0) 2 [vR 21 190 0, vI 0] [] A := rfl

set_option maxRecDepth 100000 in
theorem q_X12_qHasSquare_2 (S SN : SX) (n : Nat) (x1 : Int) (A : AH)  : go true 2 S SN pb_X12_qHasSquare (n + 2) 2 [vR 21 190 0, vI x1] [] A =
    if x1 < (gi A 190 102) then
      if (0 : Int) ≤ x1 ∧ x1 < 1700 then
        if (gi A 268 x1.toNat) = 25 then some (some (vI 1), A) else
        go true 2 S SN pb_X12_qHasSquare (n + 0) 2 [vR 21 190 0, vI (w32 (x1 + 1))] [] A
      else none
    else
    some (some (vI 0), A) := rfl
