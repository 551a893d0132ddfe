set_option maxRecDepth 100000 in
theorem q_X12_isIn_0 (S SN : SX) (n : Nat) (y0 : Int) (y2 : Int) (y4 : Int) (A : AH)  : go true 2 S SN pb_X12_isIn (n + 2) 0 [vL y0, vS, vL y2, vS, vL y4, vS] [] A =
    if (lcp y0 y2) < 0 then
      go true 2 S SN pb_X12_isIn (n + 1) 17 [vL y0, vS, vL y2, vS, vL y4, vS] [] A
    else
    if 0 < (lcp y0 y4) then
      go true 2 S SN pb_X12_isIn (n + 1) 17 [vL y0, vS, vL y2, vS, vL y4, vS] [] A
    else
    some (some (vI 1), A) := rfl

set_option maxRecDepth 100000 in
theorem q_X12_isIn_17 (S SN : SX) (n : Nat) (y0 : Int) (y2 : Int) (y4 : Int) (A : AH)  : go true 2 S SN pb_X12_isIn (n + 2) 17 [vL y0, vS, vL y2, vS, vL y4, vS] [] A =
    some (some (vI 0), A) := rfl

set_option maxRecDepth 100000 in
theorem q_X12_feed_0 (S SN : SX) (n : Nat) (x1 : Int) (x2 : Int) (x3 : Int) (x4 : Int) (x5 : Int) (A : AH)  : go true 0 S SN pb_X12_feed (n + 2) 0 [vR 21 190 0, vI x1, vI x2, vI x3, vI x4, vI x5, vU, vU] [] A =
    if 1600 < (w32 ((gi A 190 1) + 20)) then
      go true 0 S SN pb_X12_feed (n + 1) 23 [vR 21 190 0, vI x1, vI x2, vI x3, vI x4, vI x5, vU, vU] [] (wi A 192 0 (w32 ((gi A 192 0) + 1)))
    else
    go true 0 S SN pb_X12_feed (n + 0) 28 [vR 21 190 0, vI x1, vI x2, vI x3, vI x4, vI x5, vI 0, vU] [] A := rfl

set_option maxRecDepth 100000 in
theorem q_X12_feed_23 (S SN : SX) (n : Nat) (x1 : Int) (x2 : Int) (x3 : Int) (x4 : Int) (x5 : Int) (u6 : AV) (u7 : AV) (A : AH)  : go true 0 S SN pb_X12_feed (n + 1) 23 [vR 21 190 0, vI x1, vI x2, vI x3, vI x4, vI x5, u6, u7] [] A =
    some (some (vI (-1)), A) := rfl

set_option maxRecDepth 100000 in
theorem q_X12_feed_28 (S SN : SX) (n : Nat) (x1 : Int) (x2 : Int) (x3 : Int) (x4 : Int) (x5 : Int) (x6 : Int) (u7 : AV) (A : AH)  : go true 0 S SN pb_X12_feed (n + 5) 28 [vR 21 190 0, vI x1, vI x2, vI x3, vI x4, vI x5, vI x6, u7] [] A =
    if x6 < 20 then
      if x6 < 4 then
        go true 0 S SN pb_X12_feed (n + 4) 81 [vR 21 190 0, vI x1, vI x2, vI x3, vI x4, vI x5, vI x6, u7] [vI x1] A
      else
      if x6 < 8 then
        go true 0 S SN pb_X12_feed (n + 3) 81 [vR 21 190 0, vI x1, vI x2, vI x3, vI x4, vI x5, vI x6, u7] [vI x2] A
      else
      if x6 < 12 then
        go true 0 S SN pb_X12_feed (n + 2) 81 [vR 21 190 0, vI x1, vI x2, vI x3, vI x4, vI x5, vI x6, u7] [vI x3] A
      else
      if x6 < 16 then
        go true 0 S SN pb_X12_feed (n + 1) 81 [vR 21 190 0, vI x1, vI x2, vI x3, vI x4, vI x5, vI x6, u7] [vI x4] A
      else
      go true 0 S SN pb_X12_feed (n + 0) 81 [vR 21 190 0, vI x1, vI x2, vI x3, vI x4, vI x5, vI x6, u7] [vI x5] A
    else
    some (some (vI (gi A 190 1)), A) := rfl

set_option maxRecDepth 100000 in
theorem q_X12_feed_81 (S SN : SX) (n : Nat) (x1 : Int) (x2 : Int) (x3 : Int) (x4 : Int) (x5 : Int) (x6 : Int) (u7 : AV) (sx0 : Int) (A : AH)  : go true 0 S SN pb_X12_feed (n + 1) 81 [vR 21 190 0, vI x1, vI x2, vI x3, vI x4, vI x5, vI x6, u7] [vI sx0] A =
    if (0 : Int) ≤ gi A 190 1 ∧ gi A 190 1 < 1600 then
      go true 0 S SN pb_X12_feed (n + 0) 108 [vR 21 190 0, vI x1, vI x2, vI x3, vI x4, vI x5, vI x6, vI sx0] [] (wi A 191 ((gi A 190 1).toNat) (band (bshr sx0 (w32 (8 * (w32 (3 - (x6.tmod 4)))))) 255))
    else none := rfl

set_option maxRecDepth 100000 in
theorem q_X12_feed_108 (S SN : SX) (n : Nat) (x1 : Int) (x2 : Int) (x3 : Int) (x4 : Int) (x5 : Int) (x6 : Int) (x7 : Int) (A : AH)  : go true 0 S SN pb_X12_feed (n + 1) 108 [vR 21 190 0, vI x1, vI x2, vI x3, vI x4, vI x5, vI x6, vI x7] [] A =
    go true 0 S SN pb_X12_feed (n + 0) 118 [vR 21 190 0, vI x1, vI x2, vI x3, vI x4, vI x5, vI x6, vI x7] [] (wi A 190 1 (w32 ((gi A 190 1) + 1))) := rfl

set_option maxRecDepth 100000 in
theorem q_X12_feed_118 (S SN : SX) (n : Nat) (x1 : Int) (x2 : Int) (x3 : Int) (x4 : Int) (x5 : Int) (x6 : Int) (x7 : Int) (A : AH)  : go true 0 S SN pb_X12_feed (n + 1) 118 [vR 21 190 0, vI x1, vI x2, vI x3, vI x4, vI x5, vI x6, vI x7] [] A =
    go true 0 S SN pb_X12_feed (n + 0) 28 [vR 21 190 0, vI x1, vI x2, vI x3, vI x4, vI x5, vI (w32 (x6 + 1)), vI x7] [] A := rfl

set_option maxRecDepth 100000 in
theorem q_X12_end_0 (S SN : SX) (n : Nat) (x1 : Int) (A : AH)  : go true 2 S SN pb_X12_end (n + 2) 0 [vR 21 190 0, vI x1] [] A =
    if x1 < 0 then
      go true 2 S SN pb_X12_end (n + 1) 12 [vR 21 190 0, vI x1] [] A
    else
    if (gi A 190 1) < x1 then
      go true 2 S SN pb_X12_end (n + 1) 12 [vR 21 190 0, vI x1] [] A
    else
    some (some (vI 1), wi A 190 1 x1) := rfl

set_option maxRecDepth 100000 in
theorem q_X12_end_12 (S SN : SX) (n : Nat) (x1 : Int) (A : AH)  : go true 2 S SN pb_X12_end (n + 1) 12 [vR 21 190 0, vI x1] [] A =
    go true 2 S SN pb_X12_end (n + 0) 22 [vR 21 190 0, vI x1] [] (wi A 192 0 (w32 ((gi A 192 0) + 1))) := rfl

set_option maxRecDepth 100000 in
theorem q_X12_end_22 (S SN : SX) (n : Nat) (x1 : Int) (A : AH)  : go true 2 S SN pb_X12_end (n + 1) 22 [vR 21 190 0, vI x1] [] A =
    some (some (vI 0), A) := rfl

set_option maxRecDepth 100000 in
theorem q_X12_fail_0 (S SN : SX) (n : Nat) (x1 : Int) (x2 : Int) (A : AH)  : go true 3 S SN pb_X12_fail (n + 2) 0 [vR 21 190 0, vI x1, vI x2] [] A =
    if (gi A 190 5) = 0 then
      go true 3 S SN pb_X12_fail (n + 0) 18 [vR 21 190 0, vI x1, vI x2] [] (wi (wi A 190 5 x1) 190 6 x2)
    else
    some (none, A) := rfl

set_option maxRecDepth 100000 in
theorem q_X12_fail_18 (S SN : SX) (n : Nat) (x1 : Int) (x2 : Int) (A : AH)  : go true 3 S SN pb_X12_fail (n + 1) 18 [vR 21 190 0, vI x1, vI x2] [] A =
    some (none, A) := rfl

set_option maxRecDepth 100000 in
theorem q_X12_isLetter_0 (S SN : SX) (n : Nat) (x0 : Int) (A : AH)  : go true 2 S SN pb_X12_isLetter (n + 2) 0 [vI x0] [] A =
    if x0 < 97 then
      go true 2 S SN pb_X12_isLetter (n + 1) 16 [vI x0] [] A
    else
    if 122 < x0 then
      go true 2 S SN pb_X12_isLetter (n + 1) 16 [vI x0] [] A
    else
    some (some (vI 1), A) := rfl

set_option maxRecDepth 100000 in
theorem q_X12_isLetter_16 (S SN : SX) (n : Nat) (x0 : Int) (A : AH)  : go true 2 S SN pb_X12_isLetter (n + 2) 16 [vI x0] [] A =
    some (some (vI 0), A) := rfl

set_option maxRecDepth 100000 in
theorem q_X12_isDigit_0 (S SN : SX) (n : Nat) (x0 : Int) (A : AH)  : go true 2 S SN pb_X12_isDigit (n + 2) 0 [vI x0] [] A =
    if x0 < 48 then
      go true 2 S SN pb_X12_isDigit (n + 1) 16 [vI x0] [] A
    else
    if 57 < x0 then
      go true 2 S SN pb_X12_isDigit (n + 1) 16 [vI x0] [] A
    else
    some (some (vI 1), A) := rfl

set_option maxRecDepth 100000 in
theorem q_X12_isDigit_16 (S SN : SX) (n : Nat) (x0 : Int) (A : AH)  : go true 2 S SN pb_X12_isDigit (n + 2) 16 [vI x0] [] A =
    some (some (vI 0), A) := rfl

set_option maxRecDepth 100000 in
theorem q_X12_look_0 (S SN : SX) (n : Nat)  (A : AH)  : go true 0 S SN pb_X12_look (n + 1) 0 [vR 21 190 0] [] A =
    if (gi A 190 2) < (gi A 190 3) then
      if (0 : Int) ≤ gi A 190 2 ∧ gi A 190 2 < 1600 then
        if (gi A 191 ((gi A 190 2).toNat)) = 10 then
          go true 0 S SN pb_X12_look (n + 0) 39 [vR 21 190 0] [] A
        else
        if (0 : Int) ≤ gi A 190 2 ∧ gi A 190 2 < 1600 then
          if (gi A 191 ((gi A 190 2).toNat)) = 32 then
            go true 0 S SN pb_X12_look (n + 0) 39 [vR 21 190 0] [] A
          else
          go true 0 S SN pb_X12_look (n + 0) 52 [vR 21 190 0] [] A
        else none
      else none
    else
    go true 0 S SN pb_X12_look (n + 0) 52 [vR 21 190 0] [] A := rfl

set_option maxRecDepth 100000 in
theorem q_X12_look_39 (S SN : SX) (n : Nat)  (A : AH)  : go true 0 S SN pb_X12_look (n + 1) 39 [vR 21 190 0] [] A =
    go true 0 S SN pb_X12_look (n + 0) 49 [vR 21 190 0] [] (wi A 190 2 (w32 ((gi A 190 2) + 1))) := rfl

set_option maxRecDepth 100000 in
theorem q_X12_look_49 (S SN : SX) (n : Nat)  (A : AH)  : go true 0 S SN pb_X12_look (n + 1) 49 [vR 21 190 0] [] A =
    go true 0 S SN pb_X12_look (n + 0) 0 [vR 21 190 0] [] A := rfl

set_option maxRecDepth 100000 in
theorem q_X12_look_52 (S SN : SX) (n : Nat)  (A : AH)  : go true 0 S SN pb_X12_look (n + 3) 52 [vR 21 190 0] [] A =
    if (gi A 190 2) < (gi A 190 3) then
      if (0 : Int) ≤ gi A 190 2 ∧ gi A 190 2 < 1600 then
        some (some (vI (gi A 191 ((gi A 190 2).toNat))), A)
      else none
    else
    some (some (vI (-1)), A) := rfl

set_option maxRecDepth 100000 in
theorem q_X12_isHere_0 (S SN : SX) (n : Nat) (a1 : Nat) (n1 : Nat) (A : AH) (ha1 : a1 ≠ 0) : go true 2 S SN pb_X12_isHere (n + 2) 0 [vR 21 190 0, vR 32 a1 n1, vU, vU] [] A =
    if (gi A 190 5) = 0 then
      cI (S 155 [vR 21 190 0] A) fun r2 A1 =>
      cI (S 153 [vI r2] A1) fun r4 A3 =>
      if r4 = 0 then
        some (some (vI 0), A3)
      else
      if (gi A3 190 2) = (gi A3 190 4) then
        some (some (vI 0), A3)
      else
      go true 2 S SN pb_X12_isHere (n + 0) 35 [vR 21 190 0, vR 32 a1 n1, vI (gi A3 190 2), vU] [] A3
    else
    some (some (vI 0), A) := by
  obtain ⟨a1, rfl⟩ := Nat.exists_eq_succ_of_ne_zero ha1
  rfl

set_option maxRecDepth 100000 in
theorem q_X12_isHere_35 (S SN : SX) (n : Nat) (a1 : Nat) (n1 : Nat) (x2 : Int) (u3 : AV) (A : AH) (ha1 : a1 ≠ 0) : go true 2 S SN pb_X12_isHere (n + 1) 35 [vR 21 190 0, vR 32 a1 n1, vI x2, u3] [] A =
    if x2 < (gi A 190 3) then
      if (0 : Int) ≤ x2 ∧ x2 < 1600 then
        cI (S 153 [vI (gi A 191 x2.toNat)] A) fun r2 A1 =>
        if r2 = 0 then
          go true 2 S SN pb_X12_isHere (n + 0) 61 [vR 21 190 0, vR 32 a1 n1, vI x2, u3] [] A1
        else
        go true 2 S SN pb_X12_isHere (n + 0) 35 [vR 21 190 0, vR 32 a1 n1, vI (w32 (x2 + 1)), u3] [] A1
      else none
    else
    go true 2 S SN pb_X12_isHere (n + 0) 61 [vR 21 190 0, vR 32 a1 n1, vI x2, u3] [] A := by
  obtain ⟨a1, rfl⟩ := Nat.exists_eq_succ_of_ne_zero ha1
  rfl

set_option maxRecDepth 100000 in
theorem q_X12_isHere_61 (S SN : SX) (n : Nat) (a1 : Nat) (n1 : Nat) (x2 : Int) (u3 : AV) (A : AH) (ha1 : a1 ≠ 0) : go true 2 S SN pb_X12_isHere (n + 2) 61 [vR 21 190 0, vR 32 a1 n1, vI x2, u3] [] A =
    if (w32 (x2 - (gi A 190 2))) = (n1 : Int) then
      go true 2 S SN pb_X12_isHere (n + 0) 76 [vR 21 190 0, vR 32 a1 n1, vI x2, vI 0] [] A
    else
    some (some (vI 0), A) := by
  obtain ⟨a1, rfl⟩ := Nat.exists_eq_succ_of_ne_zero ha1
  rfl

set_option maxRecDepth 100000 in
theorem q_X12_isHere_76 (S SN : SX) (n : Nat) (a1 : Nat) (n1 : Nat) (x2 : Int) (x3 : Int) (A : AH) (ha1 : a1 ≠ 0) : go true 2 S SN pb_X12_isHere (n + 2) 76 [vR 21 190 0, vR 32 a1 n1, vI x2, vI x3] [] A =
    if x3 < (n1 : Int) then
      if (0 : Int) ≤ w32 ((gi A 190 2) + x3) ∧ w32 ((gi A 190 2) + x3) < 1600 then
        if (0 : Int) ≤ x3 ∧ x3 < (n1 : Int) then
          if (gi A 191 ((w32 ((gi A 190 2) + x3)).toNat)) = (gi A a1 x3.toNat) then
            go true 2 S SN pb_X12_isHere (n + 0) 76 [vR 21 190 0, vR 32 a1 n1, vI x2, vI (w32 (x3 + 1))] [] A
          else
          some (some (vI 0), A)
        else none
      else none
    else
    some (some (vI 1), A) := by
  obtain ⟨a1, rfl⟩ := Nat.exists_eq_succ_of_ne_zero ha1
  rfl

set_option maxRecDepth 100000 in
theorem q_X12_takes_0 (S SN : SX) (n : Nat) (a1 : Nat) (n1 : Nat) (A : AH) (ha1 : a1 ≠ 0) : go true 2 S SN pb_X12_takes (n + 2) 0 [vR 21 190 0, vR 32 a1 n1] [] A =
    cI (S 156 [vR 21 190 0, vR 32 a1 n1] A) fun r2 A1 =>
    if r2 = 0 then some (some (vI 0), A1) else
    go true 2 S SN pb_X12_takes (n + 0) 21 [vR 21 190 0, vR 32 a1 n1] [] (wi A1 190 2 (w32 ((gi A1 190 2) + (n1 : Int)))) := by
  obtain ⟨a1, rfl⟩ := Nat.exists_eq_succ_of_ne_zero ha1
  rfl

set_option maxRecDepth 100000 in
theorem q_X12_takes_21 (S SN : SX) (n : Nat) (a1 : Nat) (n1 : Nat) (A : AH) (ha1 : a1 ≠ 0) : go true 2 S SN pb_X12_takes (n + 1) 21 [vR 21 190 0, vR 32 a1 n1] [] A =
    some (some (vI 1), wi A 190 4 (gi A 190 2)) := by
  obtain ⟨a1, rfl⟩ := Nat.exists_eq_succ_of_ne_zero ha1
  rfl
