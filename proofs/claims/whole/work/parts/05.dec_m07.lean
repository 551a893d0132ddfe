set_option maxRecDepth 100000 in
theorem q_X12_scale_0 (S SN : SX) (n : Nat)  (A : AH)  : go true 0 S SN pb_X12_scale (n + 1) 0 [vR 21 190 0] [] A =
    some (some (vI (gi A 237 1)), A) := rfl

set_option maxRecDepth 100000 in
theorem q_X12_letter_0 (S SN : SX) (n : Nat) (x1 : Int) (x2 : Int) (x3 : Int) (A : AH)  : go true 0 S SN pb_X12_letter (n + 2) 0 [vR 21 190 0, vI x1, vI x2, vI x3, vU, vU, vU, vU, vU] [] A =
    cI (S 149 [vL x1, vL 0, vL 2] A) fun r2 A1 =>
    if r2 = 0 then
      some (some (vI (-1)), A1)
    else
    if (0 : Int) ≤ w32 (6 + x1) ∧ w32 (6 + x1) < 12 then
      cI (S 149 [vL x2, vL 0, vL (w32 ((gi A1 224 ((w32 (6 + x1)).toNat)) - 1))] A1) fun r4 A3 =>
      if r4 = 0 then
        some (some (vI (-1)), A3)
      else
      cI (S 149 [vL x3, vL 0, vL 5] A3) fun r6 A5 =>
      if r6 = 0 then
        some (some (vI (-1)), A5)
      else
      go true 0 S SN pb_X12_letter (n + 1) 47 [vR 21 190 0, vI x1, vI x2, vI x3, vU, vU, vU, vU, vU] [] A5
    else none := rfl

set_option maxRecDepth 100000 in
theorem q_X12_letter_47 (S SN : SX) (n : Nat) (x1 : Int) (x2 : Int) (x3 : Int) (u4 : AV) (u5 : AV) (u6 : AV) (u7 : AV) (u8 : AV) (A : AH)  : go true 0 S SN pb_X12_letter (n + 1) 47 [vR 21 190 0, vI x1, vI x2, vI x3, u4, u5, u6, u7, u8] [] A =
    if (0 : Int) ≤ w32 ((w32 (24 + (w32 (8 * x1)))) + x2) ∧ w32 ((w32 (24 + (w32 (8 * x1)))) + x2) < 48 then
      go true 0 S SN pb_X12_letter (n + 0) 70 [vR 21 190 0, vI x1, vI x2, vI x3, vL (gi A 225 ((w32 ((w32 (24 + (w32 (8 * x1)))) + x2)).toNat)), vS, vI 0, vL (gi A 225 ((w32 ((w32 (24 + (w32 (8 * x1)))) + x2)).toNat)), vS] [] A
    else none := rfl

set_option maxRecDepth 100000 in
theorem q_X12_letter_70 (S SN : SX) (n : Nat) (x1 : Int) (x2 : Int) (x3 : Int) (y4 : Int) (x6 : Int) (y7 : Int) (A : AH)  : go true 0 S SN pb_X12_letter (n + 3) 70 [vR 21 190 0, vI x1, vI x2, vI x3, vL y4, vS, vI x6, vL y7, vS] [] A =
    if 0 < (lcp y7 0) then
      go true 0 S SN pb_X12_letter (n + 2) 70 [vR 21 190 0, vI x1, vI x2, vI x3, vL y4, vS, vI (w32 (x6 + 1)), vL (w64 (y7.tdiv 27)), vS] [] A
    else
    if x3 < x6 then
      go true 0 S SN pb_X12_letter (n + 0) 105 [vR 21 190 0, vI x1, vI x2, vI x3, vL y4, vS, vI x6, vI (w32 (x6 - 1)), vS] [] A
    else
    some (some (vI 0), A) := rfl

set_option maxRecDepth 100000 in
theorem q_X12_letter_105 (S SN : SX) (n : Nat) (x1 : Int) (x2 : Int) (x3 : Int) (y4 : Int) (x6 : Int) (x7 : Int) (A : AH)  : go true 0 S SN pb_X12_letter (n + 2) 105 [vR 21 190 0, vI x1, vI x2, vI x3, vL y4, vS, vI x6, vI x7, vS] [] A =
    if x3 < x7 then
      go true 0 S SN pb_X12_letter (n + 1) 105 [vR 21 190 0, vI x1, vI x2, vI x3, vL (w64 (y4.tdiv 27)), vS, vI x6, vI (w32 (x7 + (-1))), vS] [] A
    else
    some (some (vI (w32 (y4.tmod 27))), A) := rfl

set_option maxRecDepth 100000 in
theorem q_X12_sits_0 (S SN : SX) (n : Nat) (x1 : Int) (x2 : Int) (A : AH)  : go true 0 S SN pb_X12_sits (n + 3) 0 [vR 21 190 0, vI x1, vI x2] [] A =
    cI (S 149 [vL x1, vL 0, vL 15] A) fun r2 A1 =>
    if r2 = 0 then
      some (some (vI (-1)), A1)
    else
    cI (S 200 [vR 21 190 0, vI x1] A1) fun r4 A3 =>
    if r4 = 0 then
      some (some (vI (-1)), A3)
    else
    if x2 = 0 then
      cI (S 199 [vR 21 190 0, vI x1] A3) fun r6 A5 =>
      some (some (vI r6), A5)
    else
    if x2 = 1 then
      cI (S 205 [vR 21 190 0, vI x1] A3) fun r8 A7 =>
      some (some (vI r8), A7)
    else
    if x2 = 2 then
      cI (S 203 [vR 21 190 0, vI x1] A3) fun r10 A9 =>
      some (some (vI r10), A9)
    else
    if x2 = 3 then
      cI (S 204 [vR 21 190 0, vI x1] A3) fun r12 A11 =>
      some (some (vI r12), A11)
    else
    if x2 = 4 then
      cI (S 207 [vR 21 190 0, vI x1] A3) fun r14 A13 =>
      some (some (vI r14), A13)
    else
    if x2 = 5 then
      cI (S 208 [vR 21 190 0, vI x1] A3) fun r16 A15 =>
      some (some (vI r16), A15)
    else
    if x2 = 6 then
      cI (S 212 [vR 21 190 0, vI x1] A3) fun r18 A17 =>
      some (some (vI r18), A17)
    else
    if x2 = 7 then
      cI (S 213 [vR 21 190 0, vI x1] A3) fun r20 A19 =>
      some (some (vI r20), A19)
    else
    some (some (vI (-1)), A3) := rfl

set_option maxRecDepth 100000 in
theorem q_X12_seat_0 (S SN : SX) (n : Nat) (x1 : Int) (A : AH)  : go true 0 S SN pb_X12_seat (n + 3) 0 [vR 21 190 0, vI x1] [] A =
    cI (S 198 [vR 21 190 0, vI x1] A) fun r2 A1 =>
    if r2 = 0 then
      some (some (vI (-1)), A1)
    else
    cI (S 201 [vR 21 190 0, vI x1] A1) fun r4 A3 =>
    some (some (vI r4), A3) := rfl

set_option maxRecDepth 100000 in
theorem q_X12_mute_0 (S SN : SX) (n : Nat) (x1 : Int) (x2 : Int) (A : AH)  : go true 0 S SN pb_X12_mute (n + 5) 0 [vR 21 190 0, vI x1, vI x2] [] A =
    cI (S 196 [vR 21 190 0] A) fun r2 A1 =>
    cI (S 149 [vL x1, vL 0, vL (w32 (r2 - 1))] A1) fun r4 A3 =>
    if r4 = 0 then some (some (vI (-1)), A3) else
    if x2 = 0 then
      go true 0 S SN pb_X12_mute (n + 3) 27 [vR 21 190 0, vI x1, vI x2] [] A3
    else
    if x2 = 1 then
      go true 0 S SN pb_X12_mute (n + 3) 27 [vR 21 190 0, vI x1, vI x2] [] A3
    else
    if x2 = 2 then
      cI (S 200 [vR 21 190 0, vI (w32 (10 + x1))] A3) fun r6 A5 =>
      if r6 = 0 then
        some (some (vI 0), A5)
      else
      some (some (vI 1), A5)
    else
    some (some (vI (-1)), A3) := rfl

set_option maxRecDepth 100000 in
theorem q_X12_mute_27 (S SN : SX) (n : Nat) (x1 : Int) (x2 : Int) (A : AH)  : go true 0 S SN pb_X12_mute (n + 2) 27 [vR 21 190 0, vI x1, vI x2] [] A =
    if (0 : Int) ≤ w32 ((w32 (12 + (w32 (2 * x1)))) + x2) ∧ w32 ((w32 (12 + (w32 (2 * x1)))) + x2) < 24 then
      some (some (vI (gi A 227 ((w32 ((w32 (12 + (w32 (2 * x1)))) + x2)).toNat))), A)
    else none := rfl

set_option maxRecDepth 100000 in
theorem q_X12_noise_0 (S SN : SX) (n : Nat) (x1 : Int) (x2 : Int) (A : AH)  : go true 0 S SN pb_X12_noise (n + 2) 0 [vR 21 190 0, vI x1, vI x2] [] A =
    cI (S 198 [vR 21 190 0, vI x1] A) fun r2 A1 =>
    if r2 = 0 then
      go true 0 S SN pb_X12_noise (n + 1) 29 [vR 21 190 0, vI x1, vI x2] [] A1
    else
    cI (S 149 [vL x2, vL 0, vL 999] A1) fun r4 A3 =>
    if r4 = 0 then
      go true 0 S SN pb_X12_noise (n + 1) 29 [vR 21 190 0, vI x1, vI x2] [] A3
    else
    cI (S 210 [vR 21 190 0, vI x1, vI x2] A3) fun r6 A5 =>
    some (some (vI r6), A5) := rfl

set_option maxRecDepth 100000 in
theorem q_X12_noise_29 (S SN : SX) (n : Nat) (x1 : Int) (x2 : Int) (A : AH)  : go true 0 S SN pb_X12_noise (n + 2) 29 [vR 21 190 0, vI x1, vI x2] [] A =
    some (some (vI (-1)), A) := rfl

set_option maxRecDepth 100000 in
theorem q_X12_kept_0 (S SN : SX) (n : Nat) (x1 : Int) (x2 : Int) (A : AH)  : go true 0 S SN pb_X12_kept (n + 2) 0 [vR 21 190 0, vI x1, vI x2] [] A =
    cI (S 149 [vL x1, vL 0, vL (w32 ((gi A 237 25) - 1))] A) fun r2 A1 =>
    if r2 = 0 then
      go true 0 S SN pb_X12_kept (n + 1) 47 [vR 21 190 0, vI x1, vI x2] [] A1
    else
    cI (S 149 [vL x2, vL 0, vL 2] A1) fun r4 A3 =>
    if r4 = 0 then
      go true 0 S SN pb_X12_kept (n + 1) 47 [vR 21 190 0, vI x1, vI x2] [] A3
    else
    if (0 : Int) ≤ w32 ((w32 (26 + (w32 (3 * x1)))) + x2) ∧ w32 ((w32 (26 + (w32 (3 * x1)))) + x2) < 146 then
      some (some (vI (gi A3 237 ((w32 ((w32 (26 + (w32 (3 * x1)))) + x2)).toNat))), A3)
    else none := rfl

set_option maxRecDepth 100000 in
theorem q_X12_kept_47 (S SN : SX) (n : Nat) (x1 : Int) (x2 : Int) (A : AH)  : go true 0 S SN pb_X12_kept (n + 2) 47 [vR 21 190 0, vI x1, vI x2] [] A =
    some (some (vI (-1)), A) := rfl

set_option maxRecDepth 100000 in
theorem q_X12_putsAside_0 (S SN : SX) (n : Nat)  (A : AH)  : go true 3 S SN pb_X12_putsAside (n + 1) 0 [vR 21 190 0, vU] [] A =
    go true 3 S SN pb_X12_putsAside (n + 0) 2 [vR 21 190 0, vI 0] [] A := rfl

set_option maxRecDepth 100000 in
theorem q_X12_putsAside_2 (S SN : SX) (n : Nat) (x1 : Int) (A : AH)  : go true 3 S SN pb_X12_putsAside (n + 2) 2 [vR 21 190 0, vI x1] [] A =
    if x1 < 146 then
      if (0 : Int) ≤ x1 ∧ x1 < 146 then
        if (0 : Int) ≤ x1 ∧ x1 < 146 then
          go true 3 S SN pb_X12_putsAside (n + 1) 21 [vR 21 190 0, vI x1] [] (wi A 238 x1.toNat (gi A 237 x1.toNat))
        else none
      else none
    else
    some (none, A) := rfl

set_option maxRecDepth 100000 in
theorem q_X12_putsAside_21 (S SN : SX) (n : Nat) (x1 : Int) (A : AH)  : go true 3 S SN pb_X12_putsAside (n + 1) 21 [vR 21 190 0, vI x1] [] A =
    go true 3 S SN pb_X12_putsAside (n + 0) 2 [vR 21 190 0, vI (w32 (x1 + 1))] [] A := rfl

set_option maxRecDepth 100000 in
theorem q_X12_takesBack_0 (S SN : SX) (n : Nat)  (A : AH)  : go true 3 S SN pb_X12_takesBack (n + 1) 0 [vR 21 190 0, vU] [] A =
    go true 3 S SN pb_X12_takesBack (n + 0) 2 [vR 21 190 0, vI 0] [] A := rfl

set_option maxRecDepth 100000 in
theorem q_X12_takesBack_2 (S SN : SX) (n : Nat) (x1 : Int) (A : AH)  : go true 3 S SN pb_X12_takesBack (n + 2) 2 [vR 21 190 0, vI x1] [] A =
    if x1 < 146 then
      if (0 : Int) ≤ x1 ∧ x1 < 146 then
        if (0 : Int) ≤ x1 ∧ x1 < 146 then
          go true 3 S SN pb_X12_takesBack (n + 1) 21 [vR 21 190 0, vI x1] [] (wi A 237 x1.toNat (gi A 238 x1.toNat))
        else none
      else none
    else
    some (none, A) := rfl

set_option maxRecDepth 100000 in
theorem q_X12_takesBack_21 (S SN : SX) (n : Nat) (x1 : Int) (A : AH)  : go true 3 S SN pb_X12_takesBack (n + 1) 21 [vR 21 190 0, vI x1] [] A =
    go true 3 S SN pb_X12_takesBack (n + 0) 2 [vR 21 190 0, vI (w32 (x1 + 1))] [] A := rfl

set_option maxRecDepth 100000 in
theorem q_X12_meanMove_0 (S SN : SX) (n : Nat)  (A : AH)  : go true 1 S SN pb_X12_meanMove (n + 1) 0 [vR 21 190 0, vU, vU, vU] [] A =
    go true 1 S SN pb_X12_meanMove (n + 0) 4 [vR 21 190 0, vL 0, vS, vI 0] [] A := rfl

set_option maxRecDepth 100000 in
theorem q_X12_meanMove_4 (S SN : SX) (n : Nat) (y1 : Int) (x3 : Int) (A : AH)  : go true 1 S SN pb_X12_meanMove (n + 2) 4 [vR 21 190 0, vL y1, vS, vI x3] [] A =
    if x3 < 16 then
      cI (S 200 [vR 21 190 0, vI x3] A) fun r2 A1 =>
      if r2 = 0 then
        go true 1 S SN pb_X12_meanMove (n + 1) 50 [vR 21 190 0, vL y1, vS, vI x3] [] A1
      else
      cI (S 204 [vR 21 190 0, vI x3] A1) fun r4 A3 =>
      cI (S 215 [vR 21 190 0, vI x3, vI 0] A3) fun r6 A5 =>
      cI (S 204 [vR 21 190 0, vI x3] A5) fun r8 A7 =>
      cI (S 215 [vR 21 190 0, vI x3, vI 1] A7) fun r10 A9 =>
      go true 1 S SN pb_X12_meanMove (n + 1) 50 [vR 21 190 0, vL (w64 (y1 + (w32 ((w32 ((w32 (100 - r4)) * r6)) + (w32 (r8 * r10)))))), vS, vI x3] [] A9
    else
    some (some (vL y1), A) := rfl

set_option maxRecDepth 100000 in
theorem q_X12_meanMove_50 (S SN : SX) (n : Nat) (y1 : Int) (x3 : Int) (A : AH)  : go true 1 S SN pb_X12_meanMove (n + 1) 50 [vR 21 190 0, vL y1, vS, vI x3] [] A =
    go true 1 S SN pb_X12_meanMove (n + 0) 4 [vR 21 190 0, vL y1, vS, vI (w32 (x3 + 1))] [] A := rfl
