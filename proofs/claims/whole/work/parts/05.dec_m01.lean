set_option maxRecDepth 100000 in
theorem q_X12_asks_0 (S SN : SX) (n : Nat) (a1 : Nat) (n1 : Nat) (A : AH) (ha1 : a1 ≠ 0) : go true 3 S SN pb_X12_asks (n + 2) 0 [vR 21 190 0, vR 32 a1 n1] [] A =
    if (gi A 190 5) = 0 then
      cI (S 157 [vR 21 190 0, vR 32 a1 n1] A) fun r2 A1 =>
      if r2 = 0 then
        cV (S 152 [vR 21 190 0, vI 1, vI (gi A1 190 2)] A1) fun A3 =>
        some (none, A3)
      else
      some (none, A1)
    else
    some (none, A) := by
  obtain ⟨a1, rfl⟩ := Nat.exists_eq_succ_of_ne_zero ha1
  rfl

set_option maxRecDepth 100000 in
theorem q_X12_takesSign_0 (S SN : SX) (n : Nat) (x1 : Int) (A : AH)  : go true 2 S SN pb_X12_takesSign (n + 2) 0 [vR 21 190 0, vI x1] [] A =
    if (gi A 190 5) = 0 then
      cI (S 155 [vR 21 190 0] A) fun r2 A1 =>
      if r2 = x1 then
        go true 2 S SN pb_X12_takesSign (n + 0) 27 [vR 21 190 0, vI x1] [] (wi A1 190 2 (w32 ((gi A1 190 2) + 1)))
      else
      some (some (vI 0), A1)
    else
    some (some (vI 0), A) := rfl

set_option maxRecDepth 100000 in
theorem q_X12_takesSign_27 (S SN : SX) (n : Nat) (x1 : Int) (A : AH)  : go true 2 S SN pb_X12_takesSign (n + 1) 27 [vR 21 190 0, vI x1] [] A =
    some (some (vI 1), A) := rfl

set_option maxRecDepth 100000 in
theorem q_X12_asksSign_0 (S SN : SX) (n : Nat) (x1 : Int) (A : AH)  : go true 3 S SN pb_X12_asksSign (n + 2) 0 [vR 21 190 0, vI x1] [] A =
    if (gi A 190 5) = 0 then
      cI (S 159 [vR 21 190 0, vI x1] A) fun r2 A1 =>
      if r2 = 0 then
        cV (S 152 [vR 21 190 0, vI 1, vI (gi A1 190 2)] A1) fun A3 =>
        some (none, A3)
      else
      some (none, A1)
    else
    some (none, A) := rfl

set_option maxRecDepth 100000 in
theorem q_X12_number_0 (S SN : SX) (n : Nat) (x1 : Int) (x2 : Int) (A : AH)  : go true 0 S SN pb_X12_number (n + 3) 0 [vR 21 190 0, vI x1, vI x2, vU, vU] [] A =
    if (gi A 190 5) = 0 then
      cI (S 155 [vR 21 190 0] A) fun r2 A1 =>
      cI (S 154 [vI r2] A1) fun r4 A3 =>
      if r4 = 0 then
        go true 0 S SN pb_X12_number (n + 1) 30 [vR 21 190 0, vI x1, vI x2, vU, vU] [] A3
      else
      if (gi A3 190 2) = (gi A3 190 4) then
        go true 0 S SN pb_X12_number (n + 1) 30 [vR 21 190 0, vI x1, vI x2, vU, vU] [] A3
      else
      go true 0 S SN pb_X12_number (n + 0) 49 [vR 21 190 0, vI x1, vI x2, vI (gi A3 190 2), vI 0] [] A3
    else
    some (some (vI 0), A) := rfl

set_option maxRecDepth 100000 in
theorem q_X12_number_30 (S SN : SX) (n : Nat) (x1 : Int) (x2 : Int) (u3 : AV) (u4 : AV) (A : AH)  : go true 0 S SN pb_X12_number (n + 1) 30 [vR 21 190 0, vI x1, vI x2, u3, u4] [] A =
    cV (S 152 [vR 21 190 0, vI 1, vI (gi A 190 2)] A) fun A1 =>
    some (some (vI 0), A1) := rfl

set_option maxRecDepth 100000 in
theorem q_X12_number_49 (S SN : SX) (n : Nat) (x1 : Int) (x2 : Int) (x3 : Int) (x4 : Int) (A : AH)  : go true 0 S SN pb_X12_number (n + 1) 49 [vR 21 190 0, vI x1, vI x2, vI x3, vI x4] [] A =
    if (gi A 190 2) < (gi A 190 3) then
      if (0 : Int) ≤ gi A 190 2 ∧ gi A 190 2 < 1600 then
        cI (S 154 [vI (gi A 191 ((gi A 190 2).toNat))] A) fun r2 A1 =>
        if r2 = 0 then
          go true 0 S SN pb_X12_number (n + 0) 129 [vR 21 190 0, vI x1, vI x2, vI x3, vI x4] [] A1
        else
        if (w32 ((gi A1 190 2) - x3)) = 4 then
          cV (S 152 [vR 21 190 0, vI 1, vI (gi A1 190 2)] A1) fun A3 =>
          go true 0 S SN pb_X12_number (n + 0) 94 [vR 21 190 0, vI x1, vI x2, vI x3, vI x4] [] A3
        else
        go true 0 S SN pb_X12_number (n + 0) 96 [vR 21 190 0, vI x1, vI x2, vI x3, vI x4] [] A1
      else none
    else
    go true 0 S SN pb_X12_number (n + 0) 129 [vR 21 190 0, vI x1, vI x2, vI x3, vI x4] [] A := rfl

set_option maxRecDepth 100000 in
theorem q_X12_number_94 (S SN : SX) (n : Nat) (x1 : Int) (x2 : Int) (x3 : Int) (x4 : Int) (A : AH)  : go true 0 S SN pb_X12_number (n + 1) 94 [vR 21 190 0, vI x1, vI x2, vI x3, vI x4] [] A =
    some (some (vI 0), A) := rfl

set_option maxRecDepth 100000 in
theorem q_X12_number_96 (S SN : SX) (n : Nat) (x1 : Int) (x2 : Int) (x3 : Int) (x4 : Int) (A : AH)  : go true 0 S SN pb_X12_number (n + 1) 96 [vR 21 190 0, vI x1, vI x2, vI x3, vI x4] [] A =
    if (0 : Int) ≤ gi A 190 2 ∧ gi A 190 2 < 1600 then
      go true 0 S SN pb_X12_number (n + 0) 126 [vR 21 190 0, vI x1, vI x2, vI x3, vI (w32 ((w32 ((w32 (10 * x4)) + (gi A 191 ((gi A 190 2).toNat)))) - 48))] [] (wi A 190 2 (w32 ((gi A 190 2) + 1)))
    else none := rfl

set_option maxRecDepth 100000 in
theorem q_X12_number_126 (S SN : SX) (n : Nat) (x1 : Int) (x2 : Int) (x3 : Int) (x4 : Int) (A : AH)  : go true 0 S SN pb_X12_number (n + 1) 126 [vR 21 190 0, vI x1, vI x2, vI x3, vI x4] [] A =
    go true 0 S SN pb_X12_number (n + 0) 49 [vR 21 190 0, vI x1, vI x2, vI x3, vI x4] [] A := rfl

set_option maxRecDepth 100000 in
theorem q_X12_number_129 (S SN : SX) (n : Nat) (x1 : Int) (x2 : Int) (x3 : Int) (x4 : Int) (A : AH)  : go true 0 S SN pb_X12_number (n + 1) 129 [vR 21 190 0, vI x1, vI x2, vI x3, vI x4] [] A =
    go true 0 S SN pb_X12_number (n + 0) 142 [vR 21 190 0, vI x1, vI x2, vI x3, vI x4] [] (wi (wi A 190 4 (gi A 190 2)) 190 10 x3) := rfl

set_option maxRecDepth 100000 in
theorem q_X12_number_142 (S SN : SX) (n : Nat) (x1 : Int) (x2 : Int) (x3 : Int) (x4 : Int) (A : AH)  : go true 0 S SN pb_X12_number (n + 2) 142 [vR 21 190 0, vI x1, vI x2, vI x3, vI x4] [] A =
    cI (S 149 [vL x4, vL x1, vL x2] A) fun r2 A1 =>
    if r2 = 0 then
      cV (S 152 [vR 21 190 0, vI 2, vI x3] A1) fun A3 =>
      some (some (vI x4), A3)
    else
    some (some (vI x4), A1) := rfl

set_option maxRecDepth 100000 in
theorem q_X12_isOwnHere_0 (S SN : SX) (n : Nat)  (A : AH)  : go true 2 S SN pb_X12_isOwnHere (n + 2) 0 [vR 21 190 0, vU] [] A =
    cI (S 156 [vR 21 190 0, vR 32 193 4] A) fun r2 A1 =>
    if r2 = 0 then
      cI (S 156 [vR 21 190 0, vR 32 194 6] A1) fun r4 A3 =>
      if r4 = 0 then
        cI (S 156 [vR 21 190 0, vR 32 195 5] A3) fun r6 A5 =>
        if r6 = 0 then
          cI (S 156 [vR 21 190 0, vR 32 196 6] A5) fun r8 A7 =>
          if r8 = 0 then
            cI (S 156 [vR 21 190 0, vR 32 197 3] A7) fun r10 A9 =>
            if r10 = 0 then
              cI (S 156 [vR 21 190 0, vR 32 198 5] A9) fun r12 A11 =>
              if r12 = 0 then
                go true 2 S SN pb_X12_isOwnHere (n + 0) 71 [vR 21 190 0, vU] [vI 0] A11
              else
              go true 2 S SN pb_X12_isOwnHere (n + 1) 66 [vR 21 190 0, vU] [] A11
            else
            go true 2 S SN pb_X12_isOwnHere (n + 1) 66 [vR 21 190 0, vU] [] A9
          else
          go true 2 S SN pb_X12_isOwnHere (n + 1) 66 [vR 21 190 0, vU] [] A7
        else
        go true 2 S SN pb_X12_isOwnHere (n + 1) 66 [vR 21 190 0, vU] [] A5
      else
      go true 2 S SN pb_X12_isOwnHere (n + 1) 66 [vR 21 190 0, vU] [] A3
    else
    go true 2 S SN pb_X12_isOwnHere (n + 1) 66 [vR 21 190 0, vU] [] A1 := rfl

set_option maxRecDepth 100000 in
theorem q_X12_isOwnHere_66 (S SN : SX) (n : Nat) (u1 : AV) (A : AH)  : go true 2 S SN pb_X12_isOwnHere (n + 1) 66 [vR 21 190 0, u1] [] A =
    go true 2 S SN pb_X12_isOwnHere (n + 0) 71 [vR 21 190 0, u1] [vI 1] A := rfl

set_option maxRecDepth 100000 in
theorem q_X12_isOwnHere_71 (S SN : SX) (n : Nat) (u1 : AV) (sx0 : Int) (A : AH)  : go true 2 S SN pb_X12_isOwnHere (n + 2) 71 [vR 21 190 0, u1] [vI sx0] A =
    if sx0 = 0 then
      cI (S 156 [vR 21 190 0, vR 32 199 5] A) fun r2 A1 =>
      if r2 = 0 then
        cI (S 156 [vR 21 190 0, vR 32 200 6] A1) fun r4 A3 =>
        if r4 = 0 then
          cI (S 156 [vR 21 190 0, vR 32 201 2] A3) fun r6 A5 =>
          if r6 = 0 then
            cI (S 156 [vR 21 190 0, vR 32 202 5] A5) fun r8 A7 =>
            if r8 = 0 then
              cI (S 156 [vR 21 190 0, vR 32 203 5] A7) fun r10 A9 =>
              if r10 = 0 then
                cI (S 156 [vR 21 190 0, vR 32 204 5] A9) fun r12 A11 =>
                if r12 = 0 then
                  go true 2 S SN pb_X12_isOwnHere (n + 0) 147 [vR 21 190 0, vI sx0] [vI 0] A11
                else
                go true 2 S SN pb_X12_isOwnHere (n + 1) 142 [vR 21 190 0, vI sx0] [] A11
              else
              go true 2 S SN pb_X12_isOwnHere (n + 1) 142 [vR 21 190 0, vI sx0] [] A9
            else
            go true 2 S SN pb_X12_isOwnHere (n + 1) 142 [vR 21 190 0, vI sx0] [] A7
          else
          go true 2 S SN pb_X12_isOwnHere (n + 1) 142 [vR 21 190 0, vI sx0] [] A5
        else
        go true 2 S SN pb_X12_isOwnHere (n + 1) 142 [vR 21 190 0, vI sx0] [] A3
      else
      go true 2 S SN pb_X12_isOwnHere (n + 1) 142 [vR 21 190 0, vI sx0] [] A1
    else
    go true 2 S SN pb_X12_isOwnHere (n + 1) 142 [vR 21 190 0, vI sx0] [] A := rfl

set_option maxRecDepth 100000 in
theorem q_X12_isOwnHere_142 (S SN : SX) (n : Nat) (x1 : Int) (A : AH)  : go true 2 S SN pb_X12_isOwnHere (n + 1) 142 [vR 21 190 0, vI x1] [] A =
    go true 2 S SN pb_X12_isOwnHere (n + 0) 147 [vR 21 190 0, vI x1] [vI 1] A := rfl

set_option maxRecDepth 100000 in
theorem q_X12_isOwnHere_147 (S SN : SX) (n : Nat) (x1 : Int) (sx0 : Int) (A : AH)  : go true 2 S SN pb_X12_isOwnHere (n + 2) 147 [vR 21 190 0, vI x1] [vI sx0] A =
    if sx0 = 0 then
      cI (S 156 [vR 21 190 0, vR 32 205 4] A) fun r2 A1 =>
      if r2 = 0 then
        cI (S 156 [vR 21 190 0, vR 32 206 4] A1) fun r4 A3 =>
        if r4 = 0 then
          cI (S 156 [vR 21 190 0, vR 32 207 4] A3) fun r6 A5 =>
          if r6 = 0 then
            cI (S 156 [vR 21 190 0, vR 32 208 5] A5) fun r8 A7 =>
            if r8 = 0 then
              cI (S 156 [vR 21 190 0, vR 32 209 5] A7) fun r10 A9 =>
              if r10 = 0 then
                cI (S 156 [vR 21 190 0, vR 32 210 5] A9) fun r12 A11 =>
                if r12 = 0 then
                  go true 2 S SN pb_X12_isOwnHere (n + 0) 223 [vR 21 190 0, vI sx0] [vI 0] A11
                else
                go true 2 S SN pb_X12_isOwnHere (n + 1) 218 [vR 21 190 0, vI sx0] [] A11
              else
              go true 2 S SN pb_X12_isOwnHere (n + 1) 218 [vR 21 190 0, vI sx0] [] A9
            else
            go true 2 S SN pb_X12_isOwnHere (n + 1) 218 [vR 21 190 0, vI sx0] [] A7
          else
          go true 2 S SN pb_X12_isOwnHere (n + 1) 218 [vR 21 190 0, vI sx0] [] A5
        else
        go true 2 S SN pb_X12_isOwnHere (n + 1) 218 [vR 21 190 0, vI sx0] [] A3
      else
      go true 2 S SN pb_X12_isOwnHere (n + 1) 218 [vR 21 190 0, vI sx0] [] A1
    else
    go true 2 S SN pb_X12_isOwnHere (n + 1) 218 [vR 21 190 0, vI sx0] [] A := rfl

set_option maxRecDepth 100000 in
theorem q_X12_isOwnHere_218 (S SN : SX) (n : Nat) (x1 : Int) (A : AH)  : go true 2 S SN pb_X12_isOwnHere (n + 1) 218 [vR 21 190 0, vI x1] [] A =
    go true 2 S SN pb_X12_isOwnHere (n + 0) 223 [vR 21 190 0, vI x1] [vI 1] A := rfl

set_option maxRecDepth 100000 in
theorem q_X12_isOwnHere_223 (S SN : SX) (n : Nat) (x1 : Int) (sx0 : Int) (A : AH)  : go true 2 S SN pb_X12_isOwnHere (n + 2) 223 [vR 21 190 0, vI x1] [vI sx0] A =
    if sx0 = 0 then
      cI (S 156 [vR 21 190 0, vR 32 211 4] A) fun r2 A1 =>
      if r2 = 0 then
        cI (S 156 [vR 21 190 0, vR 32 212 5] A1) fun r4 A3 =>
        if r4 = 0 then
          cI (S 156 [vR 21 190 0, vR 32 213 5] A3) fun r6 A5 =>
          if r6 = 0 then
            cI (S 156 [vR 21 190 0, vR 32 214 6] A5) fun r8 A7 =>
            if r8 = 0 then
              cI (S 156 [vR 21 190 0, vR 32 215 6] A7) fun r10 A9 =>
              if r10 = 0 then
                cI (S 156 [vR 21 190 0, vR 32 216 5] A9) fun r12 A11 =>
                if r12 = 0 then
                  go true 2 S SN pb_X12_isOwnHere (n + 0) 299 [vR 21 190 0, vI sx0] [vI 0] A11
                else
                go true 2 S SN pb_X12_isOwnHere (n + 1) 294 [vR 21 190 0, vI sx0] [] A11
              else
              go true 2 S SN pb_X12_isOwnHere (n + 1) 294 [vR 21 190 0, vI sx0] [] A9
            else
            go true 2 S SN pb_X12_isOwnHere (n + 1) 294 [vR 21 190 0, vI sx0] [] A7
          else
          go true 2 S SN pb_X12_isOwnHere (n + 1) 294 [vR 21 190 0, vI sx0] [] A5
        else
        go true 2 S SN pb_X12_isOwnHere (n + 1) 294 [vR 21 190 0, vI sx0] [] A3
      else
      go true 2 S SN pb_X12_isOwnHere (n + 1) 294 [vR 21 190 0, vI sx0] [] A1
    else
    go true 2 S SN pb_X12_isOwnHere (n + 1) 294 [vR 21 190 0, vI sx0] [] A := rfl

set_option maxRecDepth 100000 in
theorem q_X12_isOwnHere_294 (S SN : SX) (n : Nat) (x1 : Int) (A : AH)  : go true 2 S SN pb_X12_isOwnHere (n + 1) 294 [vR 21 190 0, vI x1] [] A =
    go true 2 S SN pb_X12_isOwnHere (n + 0) 299 [vR 21 190 0, vI x1] [vI 1] A := rfl

set_option maxRecDepth 100000 in
theorem q_X12_isOwnHere_299 (S SN : SX) (n : Nat) (x1 : Int) (sx0 : Int) (A : AH)  : go true 2 S SN pb_X12_isOwnHere (n + 2) 299 [vR 21 190 0, vI x1] [vI sx0] A =
    if sx0 = 0 then
      cI (S 156 [vR 21 190 0, vR 32 217 2] A) fun r2 A1 =>
      if r2 = 0 then
        cI (S 156 [vR 21 190 0, vR 32 218 3] A1) fun r4 A3 =>
        if r4 = 0 then
          cI (S 156 [vR 21 190 0, vR 32 219 3] A3) fun r6 A5 =>
          if r6 = 0 then
            cI (S 156 [vR 21 190 0, vR 32 220 3] A5) fun r8 A7 =>
            if r8 = 0 then
              cI (S 156 [vR 21 190 0, vR 32 221 3] A7) fun r10 A9 =>
              if r10 = 0 then
                cI (S 156 [vR 21 190 0, vR 32 222 3] A9) fun r12 A11 =>
                if r12 = 0 then
                  go true 2 S SN pb_X12_isOwnHere (n + 0) 375 [vR 21 190 0, vI sx0] [vI 0] A11
                else
                go true 2 S SN pb_X12_isOwnHere (n + 1) 370 [vR 21 190 0, vI sx0] [] A11
              else
              go true 2 S SN pb_X12_isOwnHere (n + 1) 370 [vR 21 190 0, vI sx0] [] A9
            else
            go true 2 S SN pb_X12_isOwnHere (n + 1) 370 [vR 21 190 0, vI sx0] [] A7
          else
          go true 2 S SN pb_X12_isOwnHere (n + 1) 370 [vR 21 190 0, vI sx0] [] A5
        else
        go true 2 S SN pb_X12_isOwnHere (n + 1) 370 [vR 21 190 0, vI sx0] [] A3
      else
      go true 2 S SN pb_X12_isOwnHere (n + 1) 370 [vR 21 190 0, vI sx0] [] A1
    else
    go true 2 S SN pb_X12_isOwnHere (n + 1) 370 [vR 21 190 0, vI sx0] [] A := rfl

set_option maxRecDepth 100000 in
theorem q_X12_isOwnHere_370 (S SN : SX) (n : Nat) (x1 : Int) (A : AH)  : go true 2 S SN pb_X12_isOwnHere (n + 1) 370 [vR 21 190 0, vI x1] [] A =
    go true 2 S SN pb_X12_isOwnHere (n + 0) 375 [vR 21 190 0, vI x1] [vI 1] A := rfl

set_option maxRecDepth 100000 in
theorem q_X12_isOwnHere_375 (S SN : SX) (n : Nat) (x1 : Int) (sx0 : Int) (A : AH)  : go true 2 S SN pb_X12_isOwnHere (n + 3) 375 [vR 21 190 0, vI x1] [vI sx0] A =
    if sx0 = 0 then
      cI (S 156 [vR 21 190 0, vR 32 223 6] A) fun r2 A1 =>
      if r2 = 0 then
        some (some (vI 0), A1)
      else
      go true 2 S SN pb_X12_isOwnHere (n + 2) 391 [vR 21 190 0, vI sx0] [] A1
    else
    go true 2 S SN pb_X12_isOwnHere (n + 2) 391 [vR 21 190 0, vI sx0] [] A := rfl

set_option maxRecDepth 100000 in
theorem q_X12_isOwnHere_391 (S SN : SX) (n : Nat) (x1 : Int) (A : AH)  : go true 2 S SN pb_X12_isOwnHere (n + 2) 391 [vR 21 190 0, vI x1] [] A =
    some (some (vI 1), A) := rfl

set_option maxRecDepth 100000 in
theorem q_X12_name_0 (S SN : SX) (n : Nat)  (A : AH)  : go true 1 S SN pb_X12_name (n + 3) 0 [vR 21 190 0, vU, vU] [] A =
    if (gi A 190 5) = 0 then
      cI (S 155 [vR 21 190 0] A) fun r2 A1 =>
      cI (S 153 [vI r2] A1) fun r4 A3 =>
      if r4 = 0 then
        go true 1 S SN pb_X12_name (n + 1) 37 [vR 21 190 0, vU, vU] [] A3
      else
      if (gi A3 190 2) = (gi A3 190 4) then
        go true 1 S SN pb_X12_name (n + 1) 37 [vR 21 190 0, vU, vU] [] A3
      else
      cI (S 162 [vR 21 190 0] A3) fun r6 A5 =>
      if r6 = 0 then
        go true 1 S SN pb_X12_name (n + 0) 58 [vR 21 190 0, vL 0, vS] [] (wi A5 190 42 (gi A5 190 2))
      else
      go true 1 S SN pb_X12_name (n + 1) 37 [vR 21 190 0, vU, vU] [] A5
    else
    some (some (vL 0), A) := rfl

set_option maxRecDepth 100000 in
theorem q_X12_name_37 (S SN : SX) (n : Nat) (u1 : AV) (u2 : AV) (A : AH)  : go true 1 S SN pb_X12_name (n + 1) 37 [vR 21 190 0, u1, u2] [] A =
    cV (S 152 [vR 21 190 0, vI 1, vI (gi A 190 2)] A) fun A1 =>
    some (some (vL 0), A1) := rfl

set_option maxRecDepth 100000 in
theorem q_X12_name_58 (S SN : SX) (n : Nat) (y1 : Int) (A : AH)  : go true 1 S SN pb_X12_name (n + 1) 58 [vR 21 190 0, vL y1, vS] [] A =
    if (gi A 190 2) < (gi A 190 3) then
      if (0 : Int) ≤ gi A 190 2 ∧ gi A 190 2 < 1600 then
        cI (S 153 [vI (gi A 191 ((gi A 190 2).toNat))] A) fun r2 A1 =>
        if r2 = 0 then
          go true 1 S SN pb_X12_name (n + 0) 145 [vR 21 190 0, vL y1, vS] [] A1
        else
        if (w32 ((gi A1 190 2) - (gi A1 190 42))) = 6 then
          cV (S 152 [vR 21 190 0, vI 1, vI (gi A1 190 2)] A1) fun A3 =>
          go true 1 S SN pb_X12_name (n + 0) 107 [vR 21 190 0, vL y1, vS] [] A3
        else
        go true 1 S SN pb_X12_name (n + 0) 109 [vR 21 190 0, vL y1, vS] [] A1
      else none
    else
    go true 1 S SN pb_X12_name (n + 0) 145 [vR 21 190 0, vL y1, vS] [] A := rfl

set_option maxRecDepth 100000 in
theorem q_X12_name_107 (S SN : SX) (n : Nat) (y1 : Int) (A : AH)  : go true 1 S SN pb_X12_name (n + 1) 107 [vR 21 190 0, vL y1, vS] [] A =
    some (some (vL 0), A) := rfl

set_option maxRecDepth 100000 in
theorem q_X12_name_109 (S SN : SX) (n : Nat) (y1 : Int) (A : AH)  : go true 1 S SN pb_X12_name (n + 1) 109 [vR 21 190 0, vL y1, vS] [] A =
    if (0 : Int) ≤ gi A 190 2 ∧ gi A 190 2 < 1600 then
      go true 1 S SN pb_X12_name (n + 0) 142 [vR 21 190 0, vL (w64 ((w64 ((w64 ((w64 (27 * y1)) + (gi A 191 ((gi A 190 2).toNat)))) - 97)) + 1)), vS] [] (wi A 190 2 (w32 ((gi A 190 2) + 1)))
    else none := rfl

set_option maxRecDepth 100000 in
theorem q_X12_name_142 (S SN : SX) (n : Nat) (y1 : Int) (A : AH)  : go true 1 S SN pb_X12_name (n + 1) 142 [vR 21 190 0, vL y1, vS] [] A =
    go true 1 S SN pb_X12_name (n + 0) 58 [vR 21 190 0, vL y1, vS] [] A := rfl

set_option maxRecDepth 100000 in
theorem q_X12_name_145 (S SN : SX) (n : Nat) (y1 : Int) (A : AH)  : go true 1 S SN pb_X12_name (n + 1) 145 [vR 21 190 0, vL y1, vS] [] A =
    some (some (vL y1), wi A 190 4 (gi A 190 2)) := rfl

set_option maxRecDepth 100000 in
theorem q_X12_isFull_0 (S SN : SX) (n : Nat) (x1 : Int) (x2 : Int) (x3 : Int) (A : AH)  : go true 2 S SN pb_X12_isFull (n + 1) 0 [vR 21 190 0, vI x1, vI x2, vI x3] [] A =
    if (gi A 190 5) = 0 then
      if (0 : Int) ≤ x1 ∧ x1 < 12 then
        if (gi A 224 x1.toNat) = x2 then
          cV (S 152 [vR 21 190 0, vI 5, vI x3] A) fun A1 =>
          go true 2 S SN pb_X12_isFull (n + 0) 23 [vR 21 190 0, vI x1, vI x2, vI x3] [] A1
        else
        go true 2 S SN pb_X12_isFull (n + 0) 23 [vR 21 190 0, vI x1, vI x2, vI x3] [] A
      else none
    else
    go true 2 S SN pb_X12_isFull (n + 0) 23 [vR 21 190 0, vI x1, vI x2, vI x3] [] A := rfl

set_option maxRecDepth 100000 in
theorem q_X12_isFull_23 (S SN : SX) (n : Nat) (x1 : Int) (x2 : Int) (x3 : Int) (A : AH)  : go true 2 S SN pb_X12_isFull (n + 3) 23 [vR 21 190 0, vI x1, vI x2, vI x3] [] A =
    if (gi A 190 5) = 0 then
      some (some (vI 0), A)
    else
    some (some (vI 1), A) := rfl

set_option maxRecDepth 100000 in
theorem q_X12_nameOf_0 (S SN : SX) (n : Nat) (x1 : Int) (y2 : Int) (A : AH)  : go true 0 S SN pb_X12_nameOf (n + 1) 0 [vR 21 190 0, vI x1, vL y2, vS, vU] [] A =
    go true 0 S SN pb_X12_nameOf (n + 0) 3 [vR 21 190 0, vI x1, vL y2, vS, vI 0] [] A := rfl

set_option maxRecDepth 100000 in
theorem q_X12_nameOf_3 (S SN : SX) (n : Nat) (x1 : Int) (y2 : Int) (x4 : Int) (A : AH)  : go true 0 S SN pb_X12_nameOf (n + 2) 3 [vR 21 190 0, vI x1, vL y2, vS, vI x4] [] A =
    if (0 : Int) ≤ x1 ∧ x1 < 12 then
      if x4 < (gi A 224 x1.toNat) then
        if (0 : Int) ≤ w32 ((w32 (8 * x1)) + x4) ∧ w32 ((w32 (8 * x1)) + x4) < 48 then
          if (lcp (gi A 225 ((w32 ((w32 (8 * x1)) + x4)).toNat)) y2) = 0 then some (some (vI x4), A) else
          go true 0 S SN pb_X12_nameOf (n + 0) 3 [vR 21 190 0, vI x1, vL y2, vS, vI (w32 (x4 + 1))] [] A
        else none
      else
      some (some (vI (-1)), A)
    else none := rfl

set_option maxRecDepth 100000 in
theorem q_X12_newName_0 (S SN : SX) (n : Nat)  (A : AH)  : go true 1 S SN pb_X12_newName (n + 1) 0 [vR 21 190 0, vU, vU, vU] [] A =
    cL (S 163 [vR 21 190 0] A) fun r2 A1 =>
    go true 1 S SN pb_X12_newName (n + 0) 7 [vR 21 190 0, vL r2, vS, vI 0] [] A1 := rfl

set_option maxRecDepth 100000 in
theorem q_X12_newName_7 (S SN : SX) (n : Nat) (y1 : Int) (x3 : Int) (A : AH)  : go true 1 S SN pb_X12_newName (n + 2) 7 [vR 21 190 0, vL y1, vS, vI x3] [] A =
    if x3 < 3 then
      if (gi A 190 5) = 0 then
        cI (S 165 [vR 21 190 0, vI x3, vL y1] A) fun r2 A1 =>
        if r2 = (-1) then
          go true 1 S SN pb_X12_newName (n + 1) 38 [vR 21 190 0, vL y1, vS, vI x3] [] A1
        else
        cV (S 152 [vR 21 190 0, vI 3, vI (gi A1 190 42)] A1) fun A3 =>
        go true 1 S SN pb_X12_newName (n + 1) 38 [vR 21 190 0, vL y1, vS, vI x3] [] A3
      else
      go true 1 S SN pb_X12_newName (n + 1) 38 [vR 21 190 0, vL y1, vS, vI x3] [] A
    else
    some (some (vL y1), A) := rfl

set_option maxRecDepth 100000 in
theorem q_X12_newName_38 (S SN : SX) (n : Nat) (y1 : Int) (x3 : Int) (A : AH)  : go true 1 S SN pb_X12_newName (n + 1) 38 [vR 21 190 0, vL y1, vS, vI x3] [] A =
    go true 1 S SN pb_X12_newName (n + 0) 7 [vR 21 190 0, vL y1, vS, vI (w32 (x3 + 1))] [] A := rfl

set_option maxRecDepth 100000 in
theorem q_X12_hallTold_0 (S SN : SX) (n : Nat)  (A : AH)  : go true 3 S SN pb_X12_hallTold (n + 1) 0 [vR 21 190 0] [] A =
    cV (S 158 [vR 21 190 0, vR 32 193 4] A) fun A1 =>
    cI (S 161 [vR 21 190 0, vI 2, vI 9] A1) fun r3 A2 =>
    go true 3 S SN pb_X12_hallTold (n + 0) 21 [vR 21 190 0] [] (wi A2 224 5 r3) := rfl

set_option maxRecDepth 100000 in
theorem q_X12_hallTold_21 (S SN : SX) (n : Nat)  (A : AH)  : go true 3 S SN pb_X12_hallTold (n + 1) 21 [vR 21 190 0] [] A =
    cV (S 160 [vR 21 190 0, vI 59] A) fun A1 =>
    some (none, A1) := rfl
