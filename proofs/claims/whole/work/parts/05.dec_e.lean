set_option maxRecDepth 100000 in
theorem q_X12_isIn_0 (S SN : SX) (n : Nat) (y0 : Int) (y2 : Int) (y4 : Int) (A : AH)  : go true 2 S SN pb_X12_isIn (n + 2) 0 [vL y0, vS, vL y2, vS, vL y4, vS] [] A =
    if (lcp y0 y2) < 0 then
      go true 2 S SN pb_X12_isIn (n + 1) 17 [vL y0, vS, vL y2, vS, vL y4, vS] [] A
    else
    if 0 < (lcp y0 y4) then
      go true 2 S SN pb_X12_isIn (n + 1) 17 [vL y0, vS, vL y2, vS, vL y4, vS] [] A
    else
    some (some (vI 1), A) := rfl

set_option maxRecDepth 100000 in
theorem q_X12_isIn_17 (S SN : SX) (n : Nat) (y0 : Int) (y2 : Int) (y4 : Int) (A : AH)  : go true 2 S SN pb_X12_isIn (n + 2) 17 [vL y0, vS, vL y2, vS, vL y4, vS] [] A =
    some (some (vI 0), A) := rfl

set_option maxRecDepth 100000 in
theorem q_X12_feed_0 (S SN : SX) (n : Nat) (x1 : Int) (x2 : Int) (x3 : Int) (x4 : Int) (x5 : Int) (A : AH)  : go true 0 S SN pb_X12_feed (n + 2) 0 [vR 21 190 0, vI x1, vI x2, vI x3, vI x4, vI x5, vU, vU] [] A =
    if 1600 < (w32 ((gi A 190 1) + 20)) then
      go true 0 S SN pb_X12_feed (n + 1) 23 [vR 21 190 0, vI x1, vI x2, vI x3, vI x4, vI x5, vU, vU] [] (wi A 192 0 (w32 ((gi A 192 0) + 1)))
    else
    go true 0 S SN pb_X12_feed (n + 0) 28 [vR 21 190 0, vI x1, vI x2, vI x3, vI x4, vI x5, vI 0, vU] [] A := rfl

set_option maxRecDepth 100000 in
theorem q_X12_feed_23 (S SN : SX) (n : Nat) (x1 : Int) (x2 : Int) (x3 : Int) (x4 : Int) (x5 : Int) (u6 : AV) (u7 : AV) (A : AH)  : go true 0 S SN pb_X12_feed (n + 1) 23 [vR 21 190 0, vI x1, vI x2, vI x3, vI x4, vI x5, u6, u7] [] A =
    some (some (vI (-1)), A) := rfl

set_option maxRecDepth 100000 in
theorem q_X12_feed_28 (S SN : SX) (n : Nat) (x1 : Int) (x2 : Int) (x3 : Int) (x4 : Int) (x5 : Int) (x6 : Int) (u7 : AV) (A : AH)  : go true 0 S SN pb_X12_feed (n + 5) 28 [vR 21 190 0, vI x1, vI x2, vI x3, vI x4, vI x5, vI x6, u7] [] A =
    if x6 < 20 then
      if x6 < 4 then
        go true 0 S SN pb_X12_feed (n + 4) 81 [vR 21 190 0, vI x1, vI x2, vI x3, vI x4, vI x5, vI x6, u7] [vI x1] A
      else
      if x6 < 8 then
        go true 0 S SN pb_X12_feed (n + 3) 81 [vR 21 190 0, vI x1, vI x2, vI x3, vI x4, vI x5, vI x6, u7] [vI x2] A
      else
      if x6 < 12 then
        go true 0 S SN pb_X12_feed (n + 2) 81 [vR 21 190 0, vI x1, vI x2, vI x3, vI x4, vI x5, vI x6, u7] [vI x3] A
      else
      if x6 < 16 then
        go true 0 S SN pb_X12_feed (n + 1) 81 [vR 21 190 0, vI x1, vI x2, vI x3, vI x4, vI x5, vI x6, u7] [vI x4] A
      else
      go true 0 S SN pb_X12_feed (n + 0) 81 [vR 21 190 0, vI x1, vI x2, vI x3, vI x4, vI x5, vI x6, u7] [vI x5] A
    else
    some (some (vI (gi A 190 1)), A) := rfl

set_option maxRecDepth 100000 in
theorem q_X12_feed_81 (S SN : SX) (n : Nat) (x1 : Int) (x2 : Int) (x3 : Int) (x4 : Int) (x5 : Int) (x6 : Int) (u7 : AV) (sx0 : Int) (A : AH)  : go true 0 S SN pb_X12_feed (n + 1) 81 [vR 21 190 0, vI x1, vI x2, vI x3, vI x4, vI x5, vI x6, u7] [vI sx0] A =
    if (0 : Int) ≤ gi A 190 1 ∧ gi A 190 1 < 1600 then
      go true 0 S SN pb_X12_feed (n + 0) 108 [vR 21 190 0, vI x1, vI x2, vI x3, vI x4, vI x5, vI x6, vI sx0] [] (wi A 191 ((gi A 190 1).toNat) (band (bshr sx0 (w32 (8 * (w32 (3 - (x6.tmod 4)))))) 255))
    else none := rfl

set_option maxRecDepth 100000 in
theorem q_X12_feed_108 (S SN : SX) (n : Nat) (x1 : Int) (x2 : Int) (x3 : Int) (x4 : Int) (x5 : Int) (x6 : Int) (x7 : Int) (A : AH)  : go true 0 S SN pb_X12_feed (n + 1) 108 [vR 21 190 0, vI x1, vI x2, vI x3, vI x4, vI x5, vI x6, vI x7] [] A =
    go true 0 S SN pb_X12_feed (n + 0) 118 [vR 21 190 0, vI x1, vI x2, vI x3, vI x4, vI x5, vI x6, vI x7] [] (wi A 190 1 (w32 ((gi A 190 1) + 1))) := rfl

set_option maxRecDepth 100000 in
theorem q_X12_feed_118 (S SN : SX) (n : Nat) (x1 : Int) (x2 : Int) (x3 : Int) (x4 : Int) (x5 : Int) (x6 : Int) (x7 : Int) (A : AH)  : go true 0 S SN pb_X12_feed (n + 1) 118 [vR 21 190 0, vI x1, vI x2, vI x3, vI x4, vI x5, vI x6, vI x7] [] A =
    go true 0 S SN pb_X12_feed (n + 0) 28 [vR 21 190 0, vI x1, vI x2, vI x3, vI x4, vI x5, vI (w32 (x6 + 1)), vI x7] [] A := rfl

set_option maxRecDepth 100000 in
theorem q_X12_end_0 (S SN : SX) (n : Nat) (x1 : Int) (A : AH)  : go true 2 S SN pb_X12_end (n + 2) 0 [vR 21 190 0, vI x1] [] A =
    if x1 < 0 then
      go true 2 S SN pb_X12_end (n + 1) 12 [vR 21 190 0, vI x1] [] A
    else
    if (gi A 190 1) < x1 then
      go true 2 S SN pb_X12_end (n + 1) 12 [vR 21 190 0, vI x1] [] A
    else
    some (some (vI 1), wi A 190 1 x1) := rfl

set_option maxRecDepth 100000 in
theorem q_X12_end_12 (S SN : SX) (n : Nat) (x1 : Int) (A : AH)  : go true 2 S SN pb_X12_end (n + 1) 12 [vR 21 190 0, vI x1] [] A =
    go true 2 S SN pb_X12_end (n + 0) 22 [vR 21 190 0, vI x1] [] (wi A 192 0 (w32 ((gi A 192 0) + 1))) := rfl

set_option maxRecDepth 100000 in
theorem q_X12_end_22 (S SN : SX) (n : Nat) (x1 : Int) (A : AH)  : go true 2 S SN pb_X12_end (n + 1) 22 [vR 21 190 0, vI x1] [] A =
    some (some (vI 0), A) := rfl

set_option maxRecDepth 100000 in
theorem q_X12_fail_0 (S SN : SX) (n : Nat) (x1 : Int) (x2 : Int) (A : AH)  : go true 3 S SN pb_X12_fail (n + 2) 0 [vR 21 190 0, vI x1, vI x2] [] A =
    if (gi A 190 5) = 0 then
      go true 3 S SN pb_X12_fail (n + 0) 18 [vR 21 190 0, vI x1, vI x2] [] (wi (wi A 190 5 x1) 190 6 x2)
    else
    some (none, A) := rfl

set_option maxRecDepth 100000 in
theorem q_X12_fail_18 (S SN : SX) (n : Nat) (x1 : Int) (x2 : Int) (A : AH)  : go true 3 S SN pb_X12_fail (n + 1) 18 [vR 21 190 0, vI x1, vI x2] [] A =
    some (none, A) := rfl

set_option maxRecDepth 100000 in
theorem q_X12_isLetter_0 (S SN : SX) (n : Nat) (x0 : Int) (A : AH)  : go true 2 S SN pb_X12_isLetter (n + 2) 0 [vI x0] [] A =
    if x0 < 97 then
      go true 2 S SN pb_X12_isLetter (n + 1) 16 [vI x0] [] A
    else
    if 122 < x0 then
      go true 2 S SN pb_X12_isLetter (n + 1) 16 [vI x0] [] A
    else
    some (some (vI 1), A) := rfl

set_option maxRecDepth 100000 in
theorem q_X12_isLetter_16 (S SN : SX) (n : Nat) (x0 : Int) (A : AH)  : go true 2 S SN pb_X12_isLetter (n + 2) 16 [vI x0] [] A =
    some (some (vI 0), A) := rfl

set_option maxRecDepth 100000 in
theorem q_X12_isDigit_0 (S SN : SX) (n : Nat) (x0 : Int) (A : AH)  : go true 2 S SN pb_X12_isDigit (n + 2) 0 [vI x0] [] A =
    if x0 < 48 then
      go true 2 S SN pb_X12_isDigit (n + 1) 16 [vI x0] [] A
    else
    if 57 < x0 then
      go true 2 S SN pb_X12_isDigit (n + 1) 16 [vI x0] [] A
    else
    some (some (vI 1), A) := rfl

set_option maxRecDepth 100000 in
theorem q_X12_isDigit_16 (S SN : SX) (n : Nat) (x0 : Int) (A : AH)  : go true 2 S SN pb_X12_isDigit (n + 2) 16 [vI x0] [] A =
    some (some (vI 0), A) := rfl

set_option maxRecDepth 100000 in
theorem q_X12_look_0 (S SN : SX) (n : Nat)  (A : AH)  : go true 0 S SN pb_X12_look (n + 1) 0 [vR 21 190 0] [] A =
    if (gi A 190 2) < (gi A 190 3) then
      if (0 : Int) ≤ gi A 190 2 ∧ gi A 190 2 < 1600 then
        if (gi A 191 ((gi A 190 2).toNat)) = 10 then
          go true 0 S SN pb_X12_look (n + 0) 39 [vR 21 190 0] [] A
        else
        if (0 : Int) ≤ gi A 190 2 ∧ gi A 190 2 < 1600 then
          if (gi A 191 ((gi A 190 2).toNat)) = 32 then
            go true 0 S SN pb_X12_look (n + 0) 39 [vR 21 190 0] [] A
          else
          go true 0 S SN pb_X12_look (n + 0) 52 [vR 21 190 0] [] A
        else none
      else none
    else
    go true 0 S SN pb_X12_look (n + 0) 52 [vR 21 190 0] [] A := rfl

set_option maxRecDepth 100000 in
theorem q_X12_look_39 (S SN : SX) (n : Nat)  (A : AH)  : go true 0 S SN pb_X12_look (n + 1) 39 [vR 21 190 0] [] A =
    go true 0 S SN pb_X12_look (n + 0) 49 [vR 21 190 0] [] (wi A 190 2 (w32 ((gi A 190 2) + 1))) := rfl

set_option maxRecDepth 100000 in
theorem q_X12_look_49 (S SN : SX) (n : Nat)  (A : AH)  : go true 0 S SN pb_X12_look (n + 1) 49 [vR 21 190 0] [] A =
    go true 0 S SN pb_X12_look (n + 0) 0 [vR 21 190 0] [] A := rfl

set_option maxRecDepth 100000 in
theorem q_X12_look_52 (S SN : SX) (n : Nat)  (A : AH)  : go true 0 S SN pb_X12_look (n + 3) 52 [vR 21 190 0] [] A =
    if (gi A 190 2) < (gi A 190 3) then
      if (0 : Int) ≤ gi A 190 2 ∧ gi A 190 2 < 1600 then
        some (some (vI (gi A 191 ((gi A 190 2).toNat))), A)
      else none
    else
    some (some (vI (-1)), A) := rfl

set_option maxRecDepth 100000 in
theorem q_X12_isHere_0 (S SN : SX) (n : Nat) (a1 : Nat) (n1 : Nat) (A : AH) (ha1 : a1 ≠ 0) : go true 2 S SN pb_X12_isHere (n + 2) 0 [vR 21 190 0, vR 32 a1 n1, vU, vU] [] A =
    if (gi A 190 5) = 0 then
      cI (S 155 [vR 21 190 0] A) fun r2 A1 =>
      cI (S 153 [vI r2] A1) fun r4 A3 =>
      if r4 = 0 then
        some (some (vI 0), A3)
      else
      if (gi A3 190 2) = (gi A3 190 4) then
        some (some (vI 0), A3)
      else
      go true 2 S SN pb_X12_isHere (n + 0) 35 [vR 21 190 0, vR 32 a1 n1, vI (gi A3 190 2), vU] [] A3
    else
    some (some (vI 0), A) := by
  obtain ⟨a1, rfl⟩ := Nat.exists_eq_succ_of_ne_zero ha1
  rfl

set_option maxRecDepth 100000 in
theorem q_X12_isHere_35 (S SN : SX) (n : Nat) (a1 : Nat) (n1 : Nat) (x2 : Int) (u3 : AV) (A : AH) (ha1 : a1 ≠ 0) : go true 2 S SN pb_X12_isHere (n + 1) 35 [vR 21 190 0, vR 32 a1 n1, vI x2, u3] [] A =
    if x2 < (gi A 190 3) then
      if (0 : Int) ≤ x2 ∧ x2 < 1600 then
        cI (S 153 [vI (gi A 191 x2.toNat)] A) fun r2 A1 =>
        if r2 = 0 then
          go true 2 S SN pb_X12_isHere (n + 0) 61 [vR 21 190 0, vR 32 a1 n1, vI x2, u3] [] A1
        else
        go true 2 S SN pb_X12_isHere (n + 0) 35 [vR 21 190 0, vR 32 a1 n1, vI (w32 (x2 + 1)), u3] [] A1
      else none
    else
    go true 2 S SN pb_X12_isHere (n + 0) 61 [vR 21 190 0, vR 32 a1 n1, vI x2, u3] [] A := by
  obtain ⟨a1, rfl⟩ := Nat.exists_eq_succ_of_ne_zero ha1
  rfl

set_option maxRecDepth 100000 in
theorem q_X12_isHere_61 (S SN : SX) (n : Nat) (a1 : Nat) (n1 : Nat) (x2 : Int) (u3 : AV) (A : AH) (ha1 : a1 ≠ 0) : go true 2 S SN pb_X12_isHere (n + 2) 61 [vR 21 190 0, vR 32 a1 n1, vI x2, u3] [] A =
    if (w32 (x2 - (gi A 190 2))) = (n1 : Int) then
      go true 2 S SN pb_X12_isHere (n + 0) 76 [vR 21 190 0, vR 32 a1 n1, vI x2, vI 0] [] A
    else
    some (some (vI 0), A) := by
  obtain ⟨a1, rfl⟩ := Nat.exists_eq_succ_of_ne_zero ha1
  rfl

set_option maxRecDepth 100000 in
theorem q_X12_isHere_76 (S SN : SX) (n : Nat) (a1 : Nat) (n1 : Nat) (x2 : Int) (x3 : Int) (A : AH) (ha1 : a1 ≠ 0) : go true 2 S SN pb_X12_isHere (n + 2) 76 [vR 21 190 0, vR 32 a1 n1, vI x2, vI x3] [] A =
    if x3 < (n1 : Int) then
      if (0 : Int) ≤ w32 ((gi A 190 2) + x3) ∧ w32 ((gi A 190 2) + x3) < 1600 then
        if (0 : Int) ≤ x3 ∧ x3 < (n1 : Int) then
          if (gi A 191 ((w32 ((gi A 190 2) + x3)).toNat)) = (gi A a1 x3.toNat) then
            go true 2 S SN pb_X12_isHere (n + 0) 76 [vR 21 190 0, vR 32 a1 n1, vI x2, vI (w32 (x3 + 1))] [] A
          else
          some (some (vI 0), A)
        else none
      else none
    else
    some (some (vI 1), A) := by
  obtain ⟨a1, rfl⟩ := Nat.exists_eq_succ_of_ne_zero ha1
  rfl

set_option maxRecDepth 100000 in
theorem q_X12_takes_0 (S SN : SX) (n : Nat) (a1 : Nat) (n1 : Nat) (A : AH) (ha1 : a1 ≠ 0) : go true 2 S SN pb_X12_takes (n + 2) 0 [vR 21 190 0, vR 32 a1 n1] [] A =
    cI (S 156 [vR 21 190 0, vR 32 a1 n1] A) fun r2 A1 =>
    if r2 = 0 then some (some (vI 0), A1) else
    go true 2 S SN pb_X12_takes (n + 0) 21 [vR 21 190 0, vR 32 a1 n1] [] (wi A1 190 2 (w32 ((gi A1 190 2) + (n1 : Int)))) := by
  obtain ⟨a1, rfl⟩ := Nat.exists_eq_succ_of_ne_zero ha1
  rfl

set_option maxRecDepth 100000 in
theorem q_X12_takes_21 (S SN : SX) (n : Nat) (a1 : Nat) (n1 : Nat) (A : AH) (ha1 : a1 ≠ 0) : go true 2 S SN pb_X12_takes (n + 1) 21 [vR 21 190 0, vR 32 a1 n1] [] A =
    some (some (vI 1), wi A 190 4 (gi A 190 2)) := by
  obtain ⟨a1, rfl⟩ := Nat.exists_eq_succ_of_ne_zero ha1
  rfl

set_option maxRecDepth 100000 in
theorem q_X12_asks_0 (S SN : SX) (n : Nat) (a1 : Nat) (n1 : Nat) (A : AH) (ha1 : a1 ≠ 0) : go true 3 S SN pb_X12_asks (n + 2) 0 [vR 21 190 0, vR 32 a1 n1] [] A =
    if (gi A 190 5) = 0 then
      cI (S 157 [vR 21 190 0, vR 32 a1 n1] A) fun r2 A1 =>
      if r2 = 0 then
        cV (S 152 [vR 21 190 0, vI 1, vI (gi A1 190 2)] A1) fun A3 =>
        some (none, A3)
      else
      some (none, A1)
    else
    some (none, A) := by
  obtain ⟨a1, rfl⟩ := Nat.exists_eq_succ_of_ne_zero ha1
  rfl

set_option maxRecDepth 100000 in
theorem q_X12_takesSign_0 (S SN : SX) (n : Nat) (x1 : Int) (A : AH)  : go true 2 S SN pb_X12_takesSign (n + 2) 0 [vR 21 190 0, vI x1] [] A =
    if (gi A 190 5) = 0 then
      cI (S 155 [vR 21 190 0] A) fun r2 A1 =>
      if r2 = x1 then
        go true 2 S SN pb_X12_takesSign (n + 0) 27 [vR 21 190 0, vI x1] [] (wi A1 190 2 (w32 ((gi A1 190 2) + 1)))
      else
      some (some (vI 0), A1)
    else
    some (some (vI 0), A) := rfl

set_option maxRecDepth 100000 in
theorem q_X12_takesSign_27 (S SN : SX) (n : Nat) (x1 : Int) (A : AH)  : go true 2 S SN pb_X12_takesSign (n + 1) 27 [vR 21 190 0, vI x1] [] A =
    some (some (vI 1), A) := rfl

set_option maxRecDepth 100000 in
theorem q_X12_asksSign_0 (S SN : SX) (n : Nat) (x1 : Int) (A : AH)  : go true 3 S SN pb_X12_asksSign (n + 2) 0 [vR 21 190 0, vI x1] [] A =
    if (gi A 190 5) = 0 then
      cI (S 159 [vR 21 190 0, vI x1] A) fun r2 A1 =>
      if r2 = 0 then
        cV (S 152 [vR 21 190 0, vI 1, vI (gi A1 190 2)] A1) fun A3 =>
        some (none, A3)
      else
      some (none, A1)
    else
    some (none, A) := rfl

set_option maxRecDepth 100000 in
theorem q_X12_number_0 (S SN : SX) (n : Nat) (x1 : Int) (x2 : Int) (A : AH)  : go true 0 S SN pb_X12_number (n + 3) 0 [vR 21 190 0, vI x1, vI x2, vU, vU] [] A =
    if (gi A 190 5) = 0 then
      cI (S 155 [vR 21 190 0] A) fun r2 A1 =>
      cI (S 154 [vI r2] A1) fun r4 A3 =>
      if r4 = 0 then
        go true 0 S SN pb_X12_number (n + 1) 30 [vR 21 190 0, vI x1, vI x2, vU, vU] [] A3
      else
      if (gi A3 190 2) = (gi A3 190 4) then
        go true 0 S SN pb_X12_number (n + 1) 30 [vR 21 190 0, vI x1, vI x2, vU, vU] [] A3
      else
      go true 0 S SN pb_X12_number (n + 0) 49 [vR 21 190 0, vI x1, vI x2, vI (gi A3 190 2), vI 0] [] A3
    else
    some (some (vI 0), A) := rfl

set_option maxRecDepth 100000 in
theorem q_X12_number_30 (S SN : SX) (n : Nat) (x1 : Int) (x2 : Int) (u3 : AV) (u4 : AV) (A : AH)  : go true 0 S SN pb_X12_number (n + 1) 30 [vR 21 190 0, vI x1, vI x2, u3, u4] [] A =
    cV (S 152 [vR 21 190 0, vI 1, vI (gi A 190 2)] A) fun A1 =>
    some (some (vI 0), A1) := rfl

set_option maxRecDepth 100000 in
theorem q_X12_number_49 (S SN : SX) (n : Nat) (x1 : Int) (x2 : Int) (x3 : Int) (x4 : Int) (A : AH)  : go true 0 S SN pb_X12_number (n + 1) 49 [vR 21 190 0, vI x1, vI x2, vI x3, vI x4] [] A =
    if (gi A 190 2) < (gi A 190 3) then
      if (0 : Int) ≤ gi A 190 2 ∧ gi A 190 2 < 1600 then
        cI (S 154 [vI (gi A 191 ((gi A 190 2).toNat))] A) fun r2 A1 =>
        if r2 = 0 then
          go true 0 S SN pb_X12_number (n + 0) 129 [vR 21 190 0, vI x1, vI x2, vI x3, vI x4] [] A1
        else
        if (w32 ((gi A1 190 2) - x3)) = 4 then
          cV (S 152 [vR 21 190 0, vI 1, vI (gi A1 190 2)] A1) fun A3 =>
          go true 0 S SN pb_X12_number (n + 0) 94 [vR 21 190 0, vI x1, vI x2, vI x3, vI x4] [] A3
        else
        go true 0 S SN pb_X12_number (n + 0) 96 [vR 21 190 0, vI x1, vI x2, vI x3, vI x4] [] A1
      else none
    else
    go true 0 S SN pb_X12_number (n + 0) 129 [vR 21 190 0, vI x1, vI x2, vI x3, vI x4] [] A := rfl

set_option maxRecDepth 100000 in
theorem q_X12_number_94 (S SN : SX) (n : Nat) (x1 : Int) (x2 : Int) (x3 : Int) (x4 : Int) (A : AH)  : go true 0 S SN pb_X12_number (n + 1) 94 [vR 21 190 0, vI x1, vI x2, vI x3, vI x4] [] A =
    some (some (vI 0), A) := rfl

set_option maxRecDepth 100000 in
theorem q_X12_number_96 (S SN : SX) (n : Nat) (x1 : Int) (x2 : Int) (x3 : Int) (x4 : Int) (A : AH)  : go true 0 S SN pb_X12_number (n + 1) 96 [vR 21 190 0, vI x1, vI x2, vI x3, vI x4] [] A =
    if (0 : Int) ≤ gi A 190 2 ∧ gi A 190 2 < 1600 then
      go true 0 S SN pb_X12_number (n + 0) 126 [vR 21 190 0, vI x1, vI x2, vI x3, vI (w32 ((w32 ((w32 (10 * x4)) + (gi A 191 ((gi A 190 2).toNat)))) - 48))] [] (wi A 190 2 (w32 ((gi A 190 2) + 1)))
    else none := rfl

set_option maxRecDepth 100000 in
theorem q_X12_number_126 (S SN : SX) (n : Nat) (x1 : Int) (x2 : Int) (x3 : Int) (x4 : Int) (A : AH)  : go true 0 S SN pb_X12_number (n + 1) 126 [vR 21 190 0, vI x1, vI x2, vI x3, vI x4] [] A =
    go true 0 S SN pb_X12_number (n + 0) 49 [vR 21 190 0, vI x1, vI x2, vI x3, vI x4] [] A := rfl

set_option maxRecDepth 100000 in
theorem q_X12_number_129 (S SN : SX) (n : Nat) (x1 : Int) (x2 : Int) (x3 : Int) (x4 : Int) (A : AH)  : go true 0 S SN pb_X12_number (n + 1) 129 [vR 21 190 0, vI x1, vI x2, vI x3, vI x4] [] A =
    go true 0 S SN pb_X12_number (n + 0) 142 [vR 21 190 0, vI x1, vI x2, vI x3, vI x4] [] (wi (wi A 190 4 (gi A 190 2)) 190 10 x3) := rfl

set_option maxRecDepth 100000 in
theorem q_X12_number_142 (S SN : SX) (n : Nat) (x1 : Int) (x2 : Int) (x3 : Int) (x4 : Int) (A : AH)  : go true 0 S SN pb_X12_number (n + 2) 142 [vR 21 190 0, vI x1, vI x2, vI x3, vI x4] [] A =
    cI (S 149 [vL x4, vL x1, vL x2] A) fun r2 A1 =>
    if r2 = 0 then
      cV (S 152 [vR 21 190 0, vI 2, vI x3] A1) fun A3 =>
      some (some (vI x4), A3)
    else
    some (some (vI x4), A1) := rfl

set_option maxRecDepth 100000 in
theorem q_X12_isOwnHere_0 (S SN : SX) (n : Nat)  (A : AH)  : go true 2 S SN pb_X12_isOwnHere (n + 2) 0 [vR 21 190 0, vU] [] A =
    cI (S 156 [vR 21 190 0, vR 32 193 4] A) fun r2 A1 =>
    if r2 = 0 then
      cI (S 156 [vR 21 190 0, vR 32 194 6] A1) fun r4 A3 =>
      if r4 = 0 then
        cI (S 156 [vR 21 190 0, vR 32 195 5] A3) fun r6 A5 =>
        if r6 = 0 then
          cI (S 156 [vR 21 190 0, vR 32 196 6] A5) fun r8 A7 =>
          if r8 = 0 then
            cI (S 156 [vR 21 190 0, vR 32 197 3] A7) fun r10 A9 =>
            if r10 = 0 then
              cI (S 156 [vR 21 190 0, vR 32 198 5] A9) fun r12 A11 =>
              if r12 = 0 then
                go true 2 S SN pb_X12_isOwnHere (n + 0) 71 [vR 21 190 0, vU] [vI 0] A11
              else
              go true 2 S SN pb_X12_isOwnHere (n + 1) 66 [vR 21 190 0, vU] [] A11
            else
            go true 2 S SN pb_X12_isOwnHere (n + 1) 66 [vR 21 190 0, vU] [] A9
          else
          go true 2 S SN pb_X12_isOwnHere (n + 1) 66 [vR 21 190 0, vU] [] A7
        else
        go true 2 S SN pb_X12_isOwnHere (n + 1) 66 [vR 21 190 0, vU] [] A5
      else
      go true 2 S SN pb_X12_isOwnHere (n + 1) 66 [vR 21 190 0, vU] [] A3
    else
    go true 2 S SN pb_X12_isOwnHere (n + 1) 66 [vR 21 190 0, vU] [] A1 := rfl

set_option maxRecDepth 100000 in
theorem q_X12_isOwnHere_66 (S SN : SX) (n : Nat) (u1 : AV) (A : AH)  : go true 2 S SN pb_X12_isOwnHere (n + 1) 66 [vR 21 190 0, u1] [] A =
    go true 2 S SN pb_X12_isOwnHere (n + 0) 71 [vR 21 190 0, u1] [vI 1] A := rfl

set_option maxRecDepth 100000 in
theorem q_X12_isOwnHere_71 (S SN : SX) (n : Nat) (u1 : AV) (sx0 : Int) (A : AH)  : go true 2 S SN pb_X12_isOwnHere (n + 2) 71 [vR 21 190 0, u1] [vI sx0] A =
    if sx0 = 0 then
      cI (S 156 [vR 21 190 0, vR 32 199 5] A) fun r2 A1 =>
      if r2 = 0 then
        cI (S 156 [vR 21 190 0, vR 32 200 6] A1) fun r4 A3 =>
        if r4 = 0 then
          cI (S 156 [vR 21 190 0, vR 32 201 2] A3) fun r6 A5 =>
          if r6 = 0 then
            cI (S 156 [vR 21 190 0, vR 32 202 5] A5) fun r8 A7 =>
            if r8 = 0 then
              cI (S 156 [vR 21 190 0, vR 32 203 5] A7) fun r10 A9 =>
              if r10 = 0 then
                cI (S 156 [vR 21 190 0, vR 32 204 5] A9) fun r12 A11 =>
                if r12 = 0 then
                  go true 2 S SN pb_X12_isOwnHere (n + 0) 147 [vR 21 190 0, vI sx0] [vI 0] A11
                else
                go true 2 S SN pb_X12_isOwnHere (n + 1) 142 [vR 21 190 0, vI sx0] [] A11
              else
              go true 2 S SN pb_X12_isOwnHere (n + 1) 142 [vR 21 190 0, vI sx0] [] A9
            else
            go true 2 S SN pb_X12_isOwnHere (n + 1) 142 [vR 21 190 0, vI sx0] [] A7
          else
          go true 2 S SN pb_X12_isOwnHere (n + 1) 142 [vR 21 190 0, vI sx0] [] A5
        else
        go true 2 S SN pb_X12_isOwnHere (n + 1) 142 [vR 21 190 0, vI sx0] [] A3
      else
      go true 2 S SN pb_X12_isOwnHere (n + 1) 142 [vR 21 190 0, vI sx0] [] A1
    else
    go true 2 S SN pb_X12_isOwnHere (n + 1) 142 [vR 21 190 0, vI sx0] [] A := rfl

set_option maxRecDepth 100000 in
theorem q_X12_isOwnHere_142 (S SN : SX) (n : Nat) (x1 : Int) (A : AH)  : go true 2 S SN pb_X12_isOwnHere (n + 1) 142 [vR 21 190 0, vI x1] [] A =
    go true 2 S SN pb_X12_isOwnHere (n + 0) 147 [vR 21 190 0, vI x1] [vI 1] A := rfl

set_option maxRecDepth 100000 in
theorem q_X12_isOwnHere_147 (S SN : SX) (n : Nat) (x1 : Int) (sx0 : Int) (A : AH)  : go true 2 S SN pb_X12_isOwnHere (n + 2) 147 [vR 21 190 0, vI x1] [vI sx0] A =
    if sx0 = 0 then
      cI (S 156 [vR 21 190 0, vR 32 205 4] A) fun r2 A1 =>
      if r2 = 0 then
        cI (S 156 [vR 21 190 0, vR 32 206 4] A1) fun r4 A3 =>
        if r4 = 0 then
          cI (S 156 [vR 21 190 0, vR 32 207 4] A3) fun r6 A5 =>
          if r6 = 0 then
            cI (S 156 [vR 21 190 0, vR 32 208 5] A5) fun r8 A7 =>
            if r8 = 0 then
              cI (S 156 [vR 21 190 0, vR 32 209 5] A7) fun r10 A9 =>
              if r10 = 0 then
                cI (S 156 [vR 21 190 0, vR 32 210 5] A9) fun r12 A11 =>
                if r12 = 0 then
                  go true 2 S SN pb_X12_isOwnHere (n + 0) 223 [vR 21 190 0, vI sx0] [vI 0] A11
                else
                go true 2 S SN pb_X12_isOwnHere (n + 1) 218 [vR 21 190 0, vI sx0] [] A11
              else
              go true 2 S SN pb_X12_isOwnHere (n + 1) 218 [vR 21 190 0, vI sx0] [] A9
            else
            go true 2 S SN pb_X12_isOwnHere (n + 1) 218 [vR 21 190 0, vI sx0] [] A7
          else
          go true 2 S SN pb_X12_isOwnHere (n + 1) 218 [vR 21 190 0, vI sx0] [] A5
        else
        go true 2 S SN pb_X12_isOwnHere (n + 1) 218 [vR 21 190 0, vI sx0] [] A3
      else
      go true 2 S SN pb_X12_isOwnHere (n + 1) 218 [vR 21 190 0, vI sx0] [] A1
    else
    go true 2 S SN pb_X12_isOwnHere (n + 1) 218 [vR 21 190 0, vI sx0] [] A := rfl

set_option maxRecDepth 100000 in
theorem q_X12_isOwnHere_218 (S SN : SX) (n : Nat) (x1 : Int) (A : AH)  : go true 2 S SN pb_X12_isOwnHere (n + 1) 218 [vR 21 190 0, vI x1] [] A =
    go true 2 S SN pb_X12_isOwnHere (n + 0) 223 [vR 21 190 0, vI x1] [vI 1] A := rfl

set_option maxRecDepth 100000 in
theorem q_X12_isOwnHere_223 (S SN : SX) (n : Nat) (x1 : Int) (sx0 : Int) (A : AH)  : go true 2 S SN pb_X12_isOwnHere (n + 2) 223 [vR 21 190 0, vI x1] [vI sx0] A =
    if sx0 = 0 then
      cI (S 156 [vR 21 190 0, vR 32 211 4] A) fun r2 A1 =>
      if r2 = 0 then
        cI (S 156 [vR 21 190 0, vR 32 212 5] A1) fun r4 A3 =>
        if r4 = 0 then
          cI (S 156 [vR 21 190 0, vR 32 213 5] A3) fun r6 A5 =>
          if r6 = 0 then
            cI (S 156 [vR 21 190 0, vR 32 214 6] A5) fun r8 A7 =>
            if r8 = 0 then
              cI (S 156 [vR 21 190 0, vR 32 215 6] A7) fun r10 A9 =>
              if r10 = 0 then
                cI (S 156 [vR 21 190 0, vR 32 216 5] A9) fun r12 A11 =>
                if r12 = 0 then
                  go true 2 S SN pb_X12_isOwnHere (n + 0) 299 [vR 21 190 0, vI sx0] [vI 0] A11
                else
                go true 2 S SN pb_X12_isOwnHere (n + 1) 294 [vR 21 190 0, vI sx0] [] A11
              else
              go true 2 S SN pb_X12_isOwnHere (n + 1) 294 [vR 21 190 0, vI sx0] [] A9
            else
            go true 2 S SN pb_X12_isOwnHere (n + 1) 294 [vR 21 190 0, vI sx0] [] A7
          else
          go true 2 S SN pb_X12_isOwnHere (n + 1) 294 [vR 21 190 0, vI sx0] [] A5
        else
        go true 2 S SN pb_X12_isOwnHere (n + 1) 294 [vR 21 190 0, vI sx0] [] A3
      else
      go true 2 S SN pb_X12_isOwnHere (n + 1) 294 [vR 21 190 0, vI sx0] [] A1
    else
    go true 2 S SN pb_X12_isOwnHere (n + 1) 294 [vR 21 190 0, vI sx0] [] A := rfl

set_option maxRecDepth 100000 in
theorem q_X12_isOwnHere_294 (S SN : SX) (n : Nat) (x1 : Int) (A : AH)  : go true 2 S SN pb_X12_isOwnHere (n + 1) 294 [vR 21 190 0, vI x1] [] A =
    go true 2 S SN pb_X12_isOwnHere (n + 0) 299 [vR 21 190 0, vI x1] [vI 1] A := rfl

set_option maxRecDepth 100000 in
theorem q_X12_isOwnHere_299 (S SN : SX) (n : Nat) (x1 : Int) (sx0 : Int) (A : AH)  : go true 2 S SN pb_X12_isOwnHere (n + 2) 299 [vR 21 190 0, vI x1] [vI sx0] A =
    if sx0 = 0 then
      cI (S 156 [vR 21 190 0, vR 32 217 2] A) fun r2 A1 =>
      if r2 = 0 then
        cI (S 156 [vR 21 190 0, vR 32 218 3] A1) fun r4 A3 =>
        if r4 = 0 then
          cI (S 156 [vR 21 190 0, vR 32 219 3] A3) fun r6 A5 =>
          if r6 = 0 then
            cI (S 156 [vR 21 190 0, vR 32 220 3] A5) fun r8 A7 =>
            if r8 = 0 then
              cI (S 156 [vR 21 190 0, vR 32 221 3] A7) fun r10 A9 =>
              if r10 = 0 then
                cI (S 156 [vR 21 190 0, vR 32 222 3] A9) fun r12 A11 =>
                if r12 = 0 then
                  go true 2 S SN pb_X12_isOwnHere (n + 0) 375 [vR 21 190 0, vI sx0] [vI 0] A11
                else
                go true 2 S SN pb_X12_isOwnHere (n + 1) 370 [vR 21 190 0, vI sx0] [] A11
              else
              go true 2 S SN pb_X12_isOwnHere (n + 1) 370 [vR 21 190 0, vI sx0] [] A9
            else
            go true 2 S SN pb_X12_isOwnHere (n + 1) 370 [vR 21 190 0, vI sx0] [] A7
          else
          go true 2 S SN pb_X12_isOwnHere (n + 1) 370 [vR 21 190 0, vI sx0] [] A5
        else
        go true 2 S SN pb_X12_isOwnHere (n + 1) 370 [vR 21 190 0, vI sx0] [] A3
      else
      go true 2 S SN pb_X12_isOwnHere (n + 1) 370 [vR 21 190 0, vI sx0] [] A1
    else
    go true 2 S SN pb_X12_isOwnHere (n + 1) 370 [vR 21 190 0, vI sx0] [] A := rfl

set_option maxRecDepth 100000 in
theorem q_X12_isOwnHere_370 (S SN : SX) (n : Nat) (x1 : Int) (A : AH)  : go true 2 S SN pb_X12_isOwnHere (n + 1) 370 [vR 21 190 0, vI x1] [] A =
    go true 2 S SN pb_X12_isOwnHere (n + 0) 375 [vR 21 190 0, vI x1] [vI 1] A := rfl

set_option maxRecDepth 100000 in
theorem q_X12_isOwnHere_375 (S SN : SX) (n : Nat) (x1 : Int) (sx0 : Int) (A : AH)  : go true 2 S SN pb_X12_isOwnHere (n + 3) 375 [vR 21 190 0, vI x1] [vI sx0] A =
    if sx0 = 0 then
      cI (S 156 [vR 21 190 0, vR 32 223 6] A) fun r2 A1 =>
      if r2 = 0 then
        some (some (vI 0), A1)
      else
      go true 2 S SN pb_X12_isOwnHere (n + 2) 391 [vR 21 190 0, vI sx0] [] A1
    else
    go true 2 S SN pb_X12_isOwnHere (n + 2) 391 [vR 21 190 0, vI sx0] [] A := rfl

set_option maxRecDepth 100000 in
theorem q_X12_isOwnHere_391 (S SN : SX) (n : Nat) (x1 : Int) (A : AH)  : go true 2 S SN pb_X12_isOwnHere (n + 2) 391 [vR 21 190 0, vI x1] [] A =
    some (some (vI 1), A) := rfl

set_option maxRecDepth 100000 in
theorem q_X12_name_0 (S SN : SX) (n : Nat)  (A : AH)  : go true 1 S SN pb_X12_name (n + 3) 0 [vR 21 190 0, vU, vU] [] A =
    if (gi A 190 5) = 0 then
      cI (S 155 [vR 21 190 0] A) fun r2 A1 =>
      cI (S 153 [vI r2] A1) fun r4 A3 =>
      if r4 = 0 then
        go true 1 S SN pb_X12_name (n + 1) 37 [vR 21 190 0, vU, vU] [] A3
      else
      if (gi A3 190 2) = (gi A3 190 4) then
        go true 1 S SN pb_X12_name (n + 1) 37 [vR 21 190 0, vU, vU] [] A3
      else
      cI (S 162 [vR 21 190 0] A3) fun r6 A5 =>
      if r6 = 0 then
        go true 1 S SN pb_X12_name (n + 0) 58 [vR 21 190 0, vL 0, vS] [] (wi A5 190 42 (gi A5 190 2))
      else
      go true 1 S SN pb_X12_name (n + 1) 37 [vR 21 190 0, vU, vU] [] A5
    else
    some (some (vL 0), A) := rfl

set_option maxRecDepth 100000 in
theorem q_X12_name_37 (S SN : SX) (n : Nat) (u1 : AV) (u2 : AV) (A : AH)  : go true 1 S SN pb_X12_name (n + 1) 37 [vR 21 190 0, u1, u2] [] A =
    cV (S 152 [vR 21 190 0, vI 1, vI (gi A 190 2)] A) fun A1 =>
    some (some (vL 0), A1) := rfl

set_option maxRecDepth 100000 in
theorem q_X12_name_58 (S SN : SX) (n : Nat) (y1 : Int) (A : AH)  : go true 1 S SN pb_X12_name (n + 1) 58 [vR 21 190 0, vL y1, vS] [] A =
    if (gi A 190 2) < (gi A 190 3) then
      if (0 : Int) ≤ gi A 190 2 ∧ gi A 190 2 < 1600 then
        cI (S 153 [vI (gi A 191 ((gi A 190 2).toNat))] A) fun r2 A1 =>
        if r2 = 0 then
          go true 1 S SN pb_X12_name (n + 0) 145 [vR 21 190 0, vL y1, vS] [] A1
        else
        if (w32 ((gi A1 190 2) - (gi A1 190 42))) = 6 then
          cV (S 152 [vR 21 190 0, vI 1, vI (gi A1 190 2)] A1) fun A3 =>
          go true 1 S SN pb_X12_name (n + 0) 107 [vR 21 190 0, vL y1, vS] [] A3
        else
        go true 1 S SN pb_X12_name (n + 0) 109 [vR 21 190 0, vL y1, vS] [] A1
      else none
    else
    go true 1 S SN pb_X12_name (n + 0) 145 [vR 21 190 0, vL y1, vS] [] A := rfl

set_option maxRecDepth 100000 in
theorem q_X12_name_107 (S SN : SX) (n : Nat) (y1 : Int) (A : AH)  : go true 1 S SN pb_X12_name (n + 1) 107 [vR 21 190 0, vL y1, vS] [] A =
    some (some (vL 0), A) := rfl

set_option maxRecDepth 100000 in
theorem q_X12_name_109 (S SN : SX) (n : Nat) (y1 : Int) (A : AH)  : go true 1 S SN pb_X12_name (n + 1) 109 [vR 21 190 0, vL y1, vS] [] A =
    if (0 : Int) ≤ gi A 190 2 ∧ gi A 190 2 < 1600 then
      go true 1 S SN pb_X12_name (n + 0) 142 [vR 21 190 0, vL (w64 ((w64 ((w64 ((w64 (27 * y1)) + (gi A 191 ((gi A 190 2).toNat)))) - 97)) + 1)), vS] [] (wi A 190 2 (w32 ((gi A 190 2) + 1)))
    else none := rfl

set_option maxRecDepth 100000 in
theorem q_X12_name_142 (S SN : SX) (n : Nat) (y1 : Int) (A : AH)  : go true 1 S SN pb_X12_name (n + 1) 142 [vR 21 190 0, vL y1, vS] [] A =
    go true 1 S SN pb_X12_name (n + 0) 58 [vR 21 190 0, vL y1, vS] [] A := rfl

set_option maxRecDepth 100000 in
theorem q_X12_name_145 (S SN : SX) (n : Nat) (y1 : Int) (A : AH)  : go true 1 S SN pb_X12_name (n + 1) 145 [vR 21 190 0, vL y1, vS] [] A =
    some (some (vL y1), wi A 190 4 (gi A 190 2)) := rfl

set_option maxRecDepth 100000 in
theorem q_X12_isFull_0 (S SN : SX) (n : Nat) (x1 : Int) (x2 : Int) (x3 : Int) (A : AH)  : go true 2 S SN pb_X12_isFull (n + 1) 0 [vR 21 190 0, vI x1, vI x2, vI x3] [] A =
    if (gi A 190 5) = 0 then
      if (0 : Int) ≤ x1 ∧ x1 < 12 then
        if (gi A 224 x1.toNat) = x2 then
          cV (S 152 [vR 21 190 0, vI 5, vI x3] A) fun A1 =>
          go true 2 S SN pb_X12_isFull (n + 0) 23 [vR 21 190 0, vI x1, vI x2, vI x3] [] A1
        else
        go true 2 S SN pb_X12_isFull (n + 0) 23 [vR 21 190 0, vI x1, vI x2, vI x3] [] A
      else none
    else
    go true 2 S SN pb_X12_isFull (n + 0) 23 [vR 21 190 0, vI x1, vI x2, vI x3] [] A := rfl

set_option maxRecDepth 100000 in
theorem q_X12_isFull_23 (S SN : SX) (n : Nat) (x1 : Int) (x2 : Int) (x3 : Int) (A : AH)  : go true 2 S SN pb_X12_isFull (n + 3) 23 [vR 21 190 0, vI x1, vI x2, vI x3] [] A =
    if (gi A 190 5) = 0 then
      some (some (vI 0), A)
    else
    some (some (vI 1), A) := rfl

set_option maxRecDepth 100000 in
theorem q_X12_nameOf_0 (S SN : SX) (n : Nat) (x1 : Int) (y2 : Int) (A : AH)  : go true 0 S SN pb_X12_nameOf (n + 1) 0 [vR 21 190 0, vI x1, vL y2, vS, vU] [] A =
    go true 0 S SN pb_X12_nameOf (n + 0) 3 [vR 21 190 0, vI x1, vL y2, vS, vI 0] [] A := rfl

set_option maxRecDepth 100000 in
theorem q_X12_nameOf_3 (S SN : SX) (n : Nat) (x1 : Int) (y2 : Int) (x4 : Int) (A : AH)  : go true 0 S SN pb_X12_nameOf (n + 2) 3 [vR 21 190 0, vI x1, vL y2, vS, vI x4] [] A =
    if (0 : Int) ≤ x1 ∧ x1 < 12 then
      if x4 < (gi A 224 x1.toNat) then
        if (0 : Int) ≤ w32 ((w32 (8 * x1)) + x4) ∧ w32 ((w32 (8 * x1)) + x4) < 48 then
          if (lcp (gi A 225 ((w32 ((w32 (8 * x1)) + x4)).toNat)) y2) = 0 then some (some (vI x4), A) else
          go true 0 S SN pb_X12_nameOf (n + 0) 3 [vR 21 190 0, vI x1, vL y2, vS, vI (w32 (x4 + 1))] [] A
        else none
      else
      some (some (vI (-1)), A)
    else none := rfl

set_option maxRecDepth 100000 in
theorem q_X12_newName_0 (S SN : SX) (n : Nat)  (A : AH)  : go true 1 S SN pb_X12_newName (n + 1) 0 [vR 21 190 0, vU, vU, vU] [] A =
    cL (S 163 [vR 21 190 0] A) fun r2 A1 =>
    go true 1 S SN pb_X12_newName (n + 0) 7 [vR 21 190 0, vL r2, vS, vI 0] [] A1 := rfl

set_option maxRecDepth 100000 in
theorem q_X12_newName_7 (S SN : SX) (n : Nat) (y1 : Int) (x3 : Int) (A : AH)  : go true 1 S SN pb_X12_newName (n + 2) 7 [vR 21 190 0, vL y1, vS, vI x3] [] A =
    if x3 < 3 then
      if (gi A 190 5) = 0 then
        cI (S 165 [vR 21 190 0, vI x3, vL y1] A) fun r2 A1 =>
        if r2 = (-1) then
          go true 1 S SN pb_X12_newName (n + 1) 38 [vR 21 190 0, vL y1, vS, vI x3] [] A1
        else
        cV (S 152 [vR 21 190 0, vI 3, vI (gi A1 190 42)] A1) fun A3 =>
        go true 1 S SN pb_X12_newName (n + 1) 38 [vR 21 190 0, vL y1, vS, vI x3] [] A3
      else
      go true 1 S SN pb_X12_newName (n + 1) 38 [vR 21 190 0, vL y1, vS, vI x3] [] A
    else
    some (some (vL y1), A) := rfl

set_option maxRecDepth 100000 in
theorem q_X12_newName_38 (S SN : SX) (n : Nat) (y1 : Int) (x3 : Int) (A : AH)  : go true 1 S SN pb_X12_newName (n + 1) 38 [vR 21 190 0, vL y1, vS, vI x3] [] A =
    go true 1 S SN pb_X12_newName (n + 0) 7 [vR 21 190 0, vL y1, vS, vI (w32 (x3 + 1))] [] A := rfl

set_option maxRecDepth 100000 in
theorem q_X12_hallTold_0 (S SN : SX) (n : Nat)  (A : AH)  : go true 3 S SN pb_X12_hallTold (n + 1) 0 [vR 21 190 0] [] A =
    cV (S 158 [vR 21 190 0, vR 32 193 4] A) fun A1 =>
    cI (S 161 [vR 21 190 0, vI 2, vI 9] A1) fun r3 A2 =>
    go true 3 S SN pb_X12_hallTold (n + 0) 21 [vR 21 190 0] [] (wi A2 224 5 r3) := rfl

set_option maxRecDepth 100000 in
theorem q_X12_hallTold_21 (S SN : SX) (n : Nat)  (A : AH)  : go true 3 S SN pb_X12_hallTold (n + 1) 21 [vR 21 190 0] [] A =
    cV (S 160 [vR 21 190 0, vI 59] A) fun A1 =>
    some (none, A1) := rfl

set_option maxRecDepth 100000 in
theorem q_X12_partyHere_0 (S SN : SX) (n : Nat)  (A : AH)  : go true 0 S SN pb_X12_partyHere (n + 3) 0 [vR 21 190 0] [] A =
    cI (S 157 [vR 21 190 0, vR 32 198 5] A) fun r2 A1 =>
    if r2 = 0 then
      cI (S 157 [vR 21 190 0, vR 32 199 5] A1) fun r4 A3 =>
      if r4 = 0 then
        cV (S 158 [vR 21 190 0, vR 32 200 6] A3) fun A5 =>
        some (some (vI 2), A5)
      else
      some (some (vI 1), A3)
    else
    some (some (vI 0), A1) := rfl

set_option maxRecDepth 100000 in
theorem q_X12_personTold_0 (S SN : SX) (n : Nat) (x1 : Int) (A : AH)  : go true 3 S SN pb_X12_personTold (n + 2) 0 [vR 21 190 0, vI x1, vU, vU, vU, vU, vU, vU, vU] [] A =
    cI (S 164 [vR 21 190 0, vI 0, vI 8, vI x1] A) fun r2 A1 =>
    if r2 = 0 then
      cL (S 166 [vR 21 190 0] A1) fun r4 A3 =>
      cV (S 158 [vR 21 190 0, vR 32 195 5] A3) fun A5 =>
      cI (S 161 [vR 21 190 0, vI 1, vI 99] A5) fun r7 A6 =>
      cV (S 158 [vR 21 190 0, vR 32 196 6] A6) fun A8 =>
      cI (S 161 [vR 21 190 0, vI 0, vI 100] A8) fun r10 A9 =>
      cV (S 158 [vR 21 190 0, vR 32 197 3] A9) fun A11 =>
      go true 3 S SN pb_X12_personTold (n + 0) 59 [vR 21 190 0, vI x1, vL r4, vS, vI r7, vI r10, vU, vU, vU] [] A11
    else
    some (none, A1) := rfl

set_option maxRecDepth 100000 in
theorem q_X12_personTold_59 (S SN : SX) (n : Nat) (x1 : Int) (y2 : Int) (x4 : Int) (x5 : Int) (u6 : AV) (u7 : AV) (u8 : AV) (A : AH)  : go true 3 S SN pb_X12_personTold (n + 1) 59 [vR 21 190 0, vI x1, vL y2, vS, vI x4, vI x5, u6, u7, u8] [] A =
    cI (S 168 [vR 21 190 0] A) fun r2 A1 =>
    cV (S 158 [vR 21 190 0, vR 32 201 2] A1) fun A3 =>
    cI (S 161 [vR 21 190 0, vI 0, vI (w32 ((gi A3 224 5) - 1))] A3) fun r5 A4 =>
    go true 3 S SN pb_X12_personTold (n + 0) 91 [vR 21 190 0, vI x1, vL y2, vS, vI x4, vI x5, vI r2, vI r5, vI 0] [] A4 := rfl

set_option maxRecDepth 100000 in
theorem q_X12_personTold_91 (S SN : SX) (n : Nat) (x1 : Int) (y2 : Int) (x4 : Int) (x5 : Int) (x6 : Int) (x7 : Int) (x8 : Int) (A : AH)  : go true 3 S SN pb_X12_personTold (n + 2) 91 [vR 21 190 0, vI x1, vL y2, vS, vI x4, vI x5, vI x6, vI x7, vI x8] [] A =
    if x8 < (gi A 224 0) then
      if (gi A 190 5) = 0 then
        if (0 : Int) ≤ w32 ((w32 (4 * x8)) + 3) ∧ w32 ((w32 (4 * x8)) + 3) < 64 then
          if (gi A 226 ((w32 ((w32 (4 * x8)) + 3)).toNat)) = x7 then
            cV (S 152 [vR 21 190 0, vI 2, vI (gi A 190 10)] A) fun A1 =>
            go true 3 S SN pb_X12_personTold (n + 1) 134 [vR 21 190 0, vI x1, vL y2, vS, vI x4, vI x5, vI x6, vI x7, vI x8] [] A1
          else
          go true 3 S SN pb_X12_personTold (n + 1) 134 [vR 21 190 0, vI x1, vL y2, vS, vI x4, vI x5, vI x6, vI x7, vI x8] [] A
        else none
      else
      go true 3 S SN pb_X12_personTold (n + 1) 134 [vR 21 190 0, vI x1, vL y2, vS, vI x4, vI x5, vI x6, vI x7, vI x8] [] A
    else
    if (gi A 190 5) = 0 then
      go true 3 S SN pb_X12_personTold (n + 0) 148 [vR 21 190 0, vI x1, vL y2, vS, vI x4, vI x5, vI x6, vI x7, vI x8] [] A
    else
    some (none, A) := rfl

set_option maxRecDepth 100000 in
theorem q_X12_personTold_134 (S SN : SX) (n : Nat) (x1 : Int) (y2 : Int) (x4 : Int) (x5 : Int) (x6 : Int) (x7 : Int) (x8 : Int) (A : AH)  : go true 3 S SN pb_X12_personTold (n + 1) 134 [vR 21 190 0, vI x1, vL y2, vS, vI x4, vI x5, vI x6, vI x7, vI x8] [] A =
    go true 3 S SN pb_X12_personTold (n + 0) 91 [vR 21 190 0, vI x1, vL y2, vS, vI x4, vI x5, vI x6, vI x7, vI (w32 (x8 + 1))] [] A := rfl

set_option maxRecDepth 100000 in
theorem q_X12_personTold_148 (S SN : SX) (n : Nat) (x1 : Int) (y2 : Int) (x4 : Int) (x5 : Int) (x6 : Int) (x7 : Int) (x8 : Int) (A : AH)  : go true 3 S SN pb_X12_personTold (n + 1) 148 [vR 21 190 0, vI x1, vL y2, vS, vI x4, vI x5, vI x6, vI x7, vI x8] [] A =
    if (0 : Int) ≤ gi A 224 0 ∧ gi A 224 0 < 48 then
      go true 3 S SN pb_X12_personTold (n + 0) 170 [vR 21 190 0, vI x1, vL y2, vS, vI x4, vI x5, vI x6, vI x7, vI (w32 (4 * (gi A 224 0)))] [] (wi A 225 ((gi A 224 0).toNat) y2)
    else none := rfl

set_option maxRecDepth 100000 in
theorem q_X12_personTold_170 (S SN : SX) (n : Nat) (x1 : Int) (y2 : Int) (x4 : Int) (x5 : Int) (x6 : Int) (x7 : Int) (x8 : Int) (A : AH)  : go true 3 S SN pb_X12_personTold (n + 1) 170 [vR 21 190 0, vI x1, vL y2, vS, vI x4, vI x5, vI x6, vI x7, vI x8] [] A =
    if (0 : Int) ≤ x8 ∧ x8 < 64 then
      if (0 : Int) ≤ w32 (x8 + 1) ∧ w32 (x8 + 1) < 64 then
        go true 3 S SN pb_X12_personTold (n + 0) 190 [vR 21 190 0, vI x1, vL y2, vS, vI x4, vI x5, vI x6, vI x7, vI x8] [] (wi (wi A 226 x8.toNat x4) 226 ((w32 (x8 + 1)).toNat) x5)
      else none
    else none := rfl

set_option maxRecDepth 100000 in
theorem q_X12_personTold_190 (S SN : SX) (n : Nat) (x1 : Int) (y2 : Int) (x4 : Int) (x5 : Int) (x6 : Int) (x7 : Int) (x8 : Int) (A : AH)  : go true 3 S SN pb_X12_personTold (n + 1) 190 [vR 21 190 0, vI x1, vL y2, vS, vI x4, vI x5, vI x6, vI x7, vI x8] [] A =
    if (0 : Int) ≤ w32 (x8 + 2) ∧ w32 (x8 + 2) < 64 then
      go true 3 S SN pb_X12_personTold (n + 0) 201 [vR 21 190 0, vI x1, vL y2, vS, vI x4, vI x5, vI x6, vI x7, vI x8] [] (wi A 226 ((w32 (x8 + 2)).toNat) x6)
    else none := rfl

set_option maxRecDepth 100000 in
theorem q_X12_personTold_201 (S SN : SX) (n : Nat) (x1 : Int) (y2 : Int) (x4 : Int) (x5 : Int) (x6 : Int) (x7 : Int) (x8 : Int) (A : AH)  : go true 3 S SN pb_X12_personTold (n + 1) 201 [vR 21 190 0, vI x1, vL y2, vS, vI x4, vI x5, vI x6, vI x7, vI x8] [] A =
    if (0 : Int) ≤ w32 (x8 + 3) ∧ w32 (x8 + 3) < 64 then
      go true 3 S SN pb_X12_personTold (n + 0) 212 [vR 21 190 0, vI x1, vL y2, vS, vI x4, vI x5, vI x6, vI x7, vI x8] [] (wi A 226 ((w32 (x8 + 3)).toNat) x7)
    else none := rfl

set_option maxRecDepth 100000 in
theorem q_X12_personTold_212 (S SN : SX) (n : Nat) (x1 : Int) (y2 : Int) (x4 : Int) (x5 : Int) (x6 : Int) (x7 : Int) (x8 : Int) (A : AH)  : go true 3 S SN pb_X12_personTold (n + 1) 212 [vR 21 190 0, vI x1, vL y2, vS, vI x4, vI x5, vI x6, vI x7, vI x8] [] A =
    go true 3 S SN pb_X12_personTold (n + 0) 222 [vR 21 190 0, vI x1, vL y2, vS, vI x4, vI x5, vI x6, vI x7, vI x8] [] (wi A 224 0 (w32 ((gi A 224 0) + 1))) := rfl

set_option maxRecDepth 100000 in
theorem q_X12_personTold_222 (S SN : SX) (n : Nat) (x1 : Int) (y2 : Int) (x4 : Int) (x5 : Int) (x6 : Int) (x7 : Int) (x8 : Int) (A : AH)  : go true 3 S SN pb_X12_personTold (n + 1) 222 [vR 21 190 0, vI x1, vL y2, vS, vI x4, vI x5, vI x6, vI x7, vI x8] [] A =
    some (none, A) := rfl

set_option maxRecDepth 100000 in
theorem q_X12_sitterHere_0 (S SN : SX) (n : Nat)  (A : AH)  : go true 0 S SN pb_X12_sitterHere (n + 1) 0 [vR 21 190 0, vU, vU, vU, vU] [] A =
    cL (S 163 [vR 21 190 0] A) fun r2 A1 =>
    cI (S 165 [vR 21 190 0, vI 0, vL r2] A1) fun r4 A3 =>
    cI (S 165 [vR 21 190 0, vI 1, vL r2] A3) fun r6 A5 =>
    if (gi A5 190 5) = 0 then
      if r4 = (-1) then
        if r6 = (-1) then
          cV (S 152 [vR 21 190 0, vI 3, vI (gi A5 190 42)] A5) fun A7 =>
          go true 0 S SN pb_X12_sitterHere (n + 0) 47 [vR 21 190 0, vL r2, vS, vI r4, vI r6] [] A7
        else
        go true 0 S SN pb_X12_sitterHere (n + 0) 47 [vR 21 190 0, vL r2, vS, vI r4, vI r6] [] A5
      else
      go true 0 S SN pb_X12_sitterHere (n + 0) 47 [vR 21 190 0, vL r2, vS, vI r4, vI r6] [] A5
    else
    go true 0 S SN pb_X12_sitterHere (n + 0) 47 [vR 21 190 0, vL r2, vS, vI r4, vI r6] [] A5 := rfl

set_option maxRecDepth 100000 in
theorem q_X12_sitterHere_47 (S SN : SX) (n : Nat) (y1 : Int) (x3 : Int) (x4 : Int) (A : AH)  : go true 0 S SN pb_X12_sitterHere (n + 4) 47 [vR 21 190 0, vL y1, vS, vI x3, vI x4] [] A =
    if (gi A 190 5) = 0 then
      if x3 = (-1) then
        some (some (vI (w32 (10 + x4))), A)
      else
      some (some (vI x3), A)
    else
    some (some (vI 0), A) := rfl

set_option maxRecDepth 100000 in
theorem q_X12_hatredTold_0 (S SN : SX) (n : Nat) (x1 : Int) (A : AH)  : go true 3 S SN pb_X12_hatredTold (n + 2) 0 [vR 21 190 0, vI x1, vU, vU] [] A =
    cI (S 164 [vR 21 190 0, vI 4, vI 12, vI x1] A) fun r2 A1 =>
    if r2 = 0 then
      cI (S 170 [vR 21 190 0] A1) fun r4 A3 =>
      cI (S 170 [vR 21 190 0] A3) fun r6 A5 =>
      if (gi A5 190 5) = 0 then
        if r4 = r6 then
          go true 3 S SN pb_X12_hatredTold (n + 0) 48 [vR 21 190 0, vI x1, vI r4, vI r6] [] A5
        else
        if (0 : Int) ≤ r4 ∧ r4 < 32 then
          if (band (bshr (gi A5 230 r4.toNat) r6) 1) = 1 then
            go true 3 S SN pb_X12_hatredTold (n + 0) 48 [vR 21 190 0, vI x1, vI r4, vI r6] [] A5
          else
          go true 3 S SN pb_X12_hatredTold (n + 0) 57 [vR 21 190 0, vI x1, vI r4, vI r6] [] A5
        else none
      else
      go true 3 S SN pb_X12_hatredTold (n + 0) 57 [vR 21 190 0, vI x1, vI r4, vI r6] [] A5
    else
    some (none, A1) := rfl

set_option maxRecDepth 100000 in
theorem q_X12_hatredTold_48 (S SN : SX) (n : Nat) (x1 : Int) (x2 : Int) (x3 : Int) (A : AH)  : go true 3 S SN pb_X12_hatredTold (n + 1) 48 [vR 21 190 0, vI x1, vI x2, vI x3] [] A =
    cV (S 152 [vR 21 190 0, vI 3, vI (gi A 190 42)] A) fun A1 =>
    go true 3 S SN pb_X12_hatredTold (n + 0) 57 [vR 21 190 0, vI x1, vI x2, vI x3] [] A1 := rfl

set_option maxRecDepth 100000 in
theorem q_X12_hatredTold_57 (S SN : SX) (n : Nat) (x1 : Int) (x2 : Int) (x3 : Int) (A : AH)  : go true 3 S SN pb_X12_hatredTold (n + 2) 57 [vR 21 190 0, vI x1, vI x2, vI x3] [] A =
    if (gi A 190 5) = 0 then
      if (0 : Int) ≤ x2 ∧ x2 < 32 then
        if (0 : Int) ≤ x2 ∧ x2 < 32 then
          go true 3 S SN pb_X12_hatredTold (n + 0) 77 [vR 21 190 0, vI x1, vI x2, vI x3] [] (wi A 230 x2.toNat (bor (gi A 230 x2.toNat) (bshl 1 x3)))
        else none
      else none
    else
    some (none, A) := rfl

set_option maxRecDepth 100000 in
theorem q_X12_hatredTold_77 (S SN : SX) (n : Nat) (x1 : Int) (x2 : Int) (x3 : Int) (A : AH)  : go true 3 S SN pb_X12_hatredTold (n + 1) 77 [vR 21 190 0, vI x1, vI x2, vI x3] [] A =
    go true 3 S SN pb_X12_hatredTold (n + 0) 87 [vR 21 190 0, vI x1, vI x2, vI x3] [] (wi A 224 4 (w32 ((gi A 224 4) + 1))) := rfl

set_option maxRecDepth 100000 in
theorem q_X12_hatredTold_87 (S SN : SX) (n : Nat) (x1 : Int) (x2 : Int) (x3 : Int) (A : AH)  : go true 3 S SN pb_X12_hatredTold (n + 1) 87 [vR 21 190 0, vI x1, vI x2, vI x3] [] A =
    some (none, A) := rfl

set_option maxRecDepth 100000 in
theorem q_X12_pointTold_0 (S SN : SX) (n : Nat) (x1 : Int) (A : AH)  : go true 3 S SN pb_X12_pointTold (n + 2) 0 [vR 21 190 0, vI x1, vU, vU, vU, vU] [] A =
    cI (S 164 [vR 21 190 0, vI 2, vI 4, vI x1] A) fun r2 A1 =>
    if r2 = 0 then
      cL (S 166 [vR 21 190 0] A1) fun r4 A3 =>
      cV (S 158 [vR 21 190 0, vR 32 198 5] A3) fun A5 =>
      cI (S 161 [vR 21 190 0, vI 0, vI 99] A5) fun r7 A6 =>
      cV (S 158 [vR 21 190 0, vR 32 199 5] A6) fun A8 =>
      cI (S 161 [vR 21 190 0, vI 0, vI 99] A8) fun r10 A9 =>
      if (gi A9 190 5) = 0 then
        go true 3 S SN pb_X12_pointTold (n + 0) 58 [vR 21 190 0, vI x1, vL r4, vS, vI r7, vI r10] [] A9
      else
      some (none, A9)
    else
    some (none, A1) := rfl

set_option maxRecDepth 100000 in
theorem q_X12_pointTold_58 (S SN : SX) (n : Nat) (x1 : Int) (y2 : Int) (x4 : Int) (x5 : Int) (A : AH)  : go true 3 S SN pb_X12_pointTold (n + 1) 58 [vR 21 190 0, vI x1, vL y2, vS, vI x4, vI x5] [] A =
    if (0 : Int) ≤ w32 (16 + (gi A 224 2)) ∧ w32 (16 + (gi A 224 2)) < 48 then
      go true 3 S SN pb_X12_pointTold (n + 0) 73 [vR 21 190 0, vI x1, vL y2, vS, vI x4, vI x5] [] (wi A 225 ((w32 (16 + (gi A 224 2))).toNat) y2)
    else none := rfl

set_option maxRecDepth 100000 in
theorem q_X12_pointTold_73 (S SN : SX) (n : Nat) (x1 : Int) (y2 : Int) (x4 : Int) (x5 : Int) (A : AH)  : go true 3 S SN pb_X12_pointTold (n + 1) 73 [vR 21 190 0, vI x1, vL y2, vS, vI x4, vI x5] [] A =
    if (0 : Int) ≤ w32 (2 * (gi A 224 2)) ∧ w32 (2 * (gi A 224 2)) < 16 then
      go true 3 S SN pb_X12_pointTold (n + 0) 88 [vR 21 190 0, vI x1, vL y2, vS, vI x4, vI x5] [] (wi A 228 ((w32 (2 * (gi A 224 2))).toNat) x4)
    else none := rfl

set_option maxRecDepth 100000 in
theorem q_X12_pointTold_88 (S SN : SX) (n : Nat) (x1 : Int) (y2 : Int) (x4 : Int) (x5 : Int) (A : AH)  : go true 3 S SN pb_X12_pointTold (n + 1) 88 [vR 21 190 0, vI x1, vL y2, vS, vI x4, vI x5] [] A =
    if (0 : Int) ≤ w32 ((w32 (2 * (gi A 224 2))) + 1) ∧ w32 ((w32 (2 * (gi A 224 2))) + 1) < 16 then
      go true 3 S SN pb_X12_pointTold (n + 0) 105 [vR 21 190 0, vI x1, vL y2, vS, vI x4, vI x5] [] (wi A 228 ((w32 ((w32 (2 * (gi A 224 2))) + 1)).toNat) x5)
    else none := rfl

set_option maxRecDepth 100000 in
theorem q_X12_pointTold_105 (S SN : SX) (n : Nat) (x1 : Int) (y2 : Int) (x4 : Int) (x5 : Int) (A : AH)  : go true 3 S SN pb_X12_pointTold (n + 1) 105 [vR 21 190 0, vI x1, vL y2, vS, vI x4, vI x5] [] A =
    go true 3 S SN pb_X12_pointTold (n + 0) 115 [vR 21 190 0, vI x1, vL y2, vS, vI x4, vI x5] [] (wi A 224 2 (w32 ((gi A 224 2) + 1))) := rfl

set_option maxRecDepth 100000 in
theorem q_X12_pointTold_115 (S SN : SX) (n : Nat) (x1 : Int) (y2 : Int) (x4 : Int) (x5 : Int) (A : AH)  : go true 3 S SN pb_X12_pointTold (n + 1) 115 [vR 21 190 0, vI x1, vL y2, vS, vI x4, vI x5] [] A =
    some (none, A) := rfl

set_option maxRecDepth 100000 in
theorem q_X12_noiseTold_0 (S SN : SX) (n : Nat) (x1 : Int) (A : AH)  : go true 3 S SN pb_X12_noiseTold (n + 2) 0 [vR 21 190 0, vI x1, vU, vU, vU, vU] [] A =
    cI (S 164 [vR 21 190 0, vI 3, vI 6, vI x1] A) fun r2 A1 =>
    if r2 = 0 then
      cV (S 158 [vR 21 190 0, vR 32 201 2] A1) fun A3 =>
      cI (S 161 [vR 21 190 0, vI 0, vI 99] A3) fun r5 A4 =>
      cV (S 158 [vR 21 190 0, vR 32 205 4] A4) fun A6 =>
      cI (S 161 [vR 21 190 0, vI 0, vI (w32 ((gi A6 224 5) - 1))] A6) fun r8 A7 =>
      go true 3 S SN pb_X12_noiseTold (n + 0) 50 [vR 21 190 0, vI x1, vI r5, vI r8, vU, vU] [] A7
    else
    some (none, A1) := rfl

set_option maxRecDepth 100000 in
theorem q_X12_noiseTold_50 (S SN : SX) (n : Nat) (x1 : Int) (x2 : Int) (x3 : Int) (u4 : AV) (u5 : AV) (A : AH)  : go true 3 S SN pb_X12_noiseTold (n + 2) 50 [vR 21 190 0, vI x1, vI x2, vI x3, u4, u5] [] A =
    cV (S 158 [vR 21 190 0, vR 32 206 4] A) fun A1 =>
    cI (S 161 [vR 21 190 0, vI 1, vI 9] A1) fun r3 A2 =>
    if (gi A2 190 5) = 0 then
      if (0 : Int) ≤ w32 (3 * (gi A2 224 3)) ∧ w32 (3 * (gi A2 224 3)) < 36 then
        go true 3 S SN pb_X12_noiseTold (n + 0) 93 [vR 21 190 0, vI x1, vI x2, vI x3, vI r3, vI (w32 (3 * (gi A2 224 3)))] [] (wi A2 229 ((w32 (3 * (gi A2 224 3))).toNat) x2)
      else none
    else
    some (none, A2) := rfl

set_option maxRecDepth 100000 in
theorem q_X12_noiseTold_93 (S SN : SX) (n : Nat) (x1 : Int) (x2 : Int) (x3 : Int) (x4 : Int) (x5 : Int) (A : AH)  : go true 3 S SN pb_X12_noiseTold (n + 1) 93 [vR 21 190 0, vI x1, vI x2, vI x3, vI x4, vI x5] [] A =
    if (0 : Int) ≤ w32 (x5 + 1) ∧ w32 (x5 + 1) < 36 then
      go true 3 S SN pb_X12_noiseTold (n + 0) 103 [vR 21 190 0, vI x1, vI x2, vI x3, vI x4, vI x5] [] (wi A 229 ((w32 (x5 + 1)).toNat) x3)
    else none := rfl

set_option maxRecDepth 100000 in
theorem q_X12_noiseTold_103 (S SN : SX) (n : Nat) (x1 : Int) (x2 : Int) (x3 : Int) (x4 : Int) (x5 : Int) (A : AH)  : go true 3 S SN pb_X12_noiseTold (n + 1) 103 [vR 21 190 0, vI x1, vI x2, vI x3, vI x4, vI x5] [] A =
    if (0 : Int) ≤ w32 (x5 + 2) ∧ w32 (x5 + 2) < 36 then
      go true 3 S SN pb_X12_noiseTold (n + 0) 114 [vR 21 190 0, vI x1, vI x2, vI x3, vI x4, vI x5] [] (wi A 229 ((w32 (x5 + 2)).toNat) x4)
    else none := rfl

set_option maxRecDepth 100000 in
theorem q_X12_noiseTold_114 (S SN : SX) (n : Nat) (x1 : Int) (x2 : Int) (x3 : Int) (x4 : Int) (x5 : Int) (A : AH)  : go true 3 S SN pb_X12_noiseTold (n + 1) 114 [vR 21 190 0, vI x1, vI x2, vI x3, vI x4, vI x5] [] A =
    go true 3 S SN pb_X12_noiseTold (n + 0) 124 [vR 21 190 0, vI x1, vI x2, vI x3, vI x4, vI x5] [] (wi A 224 3 (w32 ((gi A 224 3) + 1))) := rfl

set_option maxRecDepth 100000 in
theorem q_X12_noiseTold_124 (S SN : SX) (n : Nat) (x1 : Int) (x2 : Int) (x3 : Int) (x4 : Int) (x5 : Int) (A : AH)  : go true 3 S SN pb_X12_noiseTold (n + 1) 124 [vR 21 190 0, vI x1, vI x2, vI x3, vI x4, vI x5] [] A =
    some (none, A) := rfl

set_option maxRecDepth 100000 in
theorem q_X12_muteTold_0 (S SN : SX) (n : Nat) (x1 : Int) (A : AH)  : go true 3 S SN pb_X12_muteTold (n + 2) 0 [vR 21 190 0, vI x1, vU, vU, vU, vU] [] A =
    cI (S 164 [vR 21 190 0, vI 1, vI 6, vI x1] A) fun r2 A1 =>
    if r2 = 0 then
      cL (S 166 [vR 21 190 0] A1) fun r4 A3 =>
      cV (S 158 [vR 21 190 0, vR 32 195 5] A3) fun A5 =>
      cI (S 161 [vR 21 190 0, vI 1, vI 99] A5) fun r7 A6 =>
      cV (S 158 [vR 21 190 0, vR 32 208 5] A6) fun A8 =>
      cI (S 161 [vR 21 190 0, vI 0, vI 99] A8) fun r10 A9 =>
      if (gi A9 190 5) = 0 then
        go true 3 S SN pb_X12_muteTold (n + 0) 59 [vR 21 190 0, vI x1, vL r4, vS, vI r7, vI r10] [] A9
      else
      some (none, A9)
    else
    some (none, A1) := rfl

set_option maxRecDepth 100000 in
theorem q_X12_muteTold_59 (S SN : SX) (n : Nat) (x1 : Int) (y2 : Int) (x4 : Int) (x5 : Int) (A : AH)  : go true 3 S SN pb_X12_muteTold (n + 1) 59 [vR 21 190 0, vI x1, vL y2, vS, vI x4, vI x5] [] A =
    if (0 : Int) ≤ w32 (8 + (gi A 224 1)) ∧ w32 (8 + (gi A 224 1)) < 48 then
      go true 3 S SN pb_X12_muteTold (n + 0) 74 [vR 21 190 0, vI x1, vL y2, vS, vI x4, vI x5] [] (wi A 225 ((w32 (8 + (gi A 224 1))).toNat) y2)
    else none := rfl

set_option maxRecDepth 100000 in
theorem q_X12_muteTold_74 (S SN : SX) (n : Nat) (x1 : Int) (y2 : Int) (x4 : Int) (x5 : Int) (A : AH)  : go true 3 S SN pb_X12_muteTold (n + 1) 74 [vR 21 190 0, vI x1, vL y2, vS, vI x4, vI x5] [] A =
    if (0 : Int) ≤ w32 (2 * (gi A 224 1)) ∧ w32 (2 * (gi A 224 1)) < 24 then
      go true 3 S SN pb_X12_muteTold (n + 0) 89 [vR 21 190 0, vI x1, vL y2, vS, vI x4, vI x5] [] (wi A 227 ((w32 (2 * (gi A 224 1))).toNat) x4)
    else none := rfl

set_option maxRecDepth 100000 in
theorem q_X12_muteTold_89 (S SN : SX) (n : Nat) (x1 : Int) (y2 : Int) (x4 : Int) (x5 : Int) (A : AH)  : go true 3 S SN pb_X12_muteTold (n + 1) 89 [vR 21 190 0, vI x1, vL y2, vS, vI x4, vI x5] [] A =
    if (0 : Int) ≤ w32 ((w32 (2 * (gi A 224 1))) + 1) ∧ w32 ((w32 (2 * (gi A 224 1))) + 1) < 24 then
      go true 3 S SN pb_X12_muteTold (n + 0) 106 [vR 21 190 0, vI x1, vL y2, vS, vI x4, vI x5] [] (wi A 227 ((w32 ((w32 (2 * (gi A 224 1))) + 1)).toNat) x5)
    else none := rfl

set_option maxRecDepth 100000 in
theorem q_X12_muteTold_106 (S SN : SX) (n : Nat) (x1 : Int) (y2 : Int) (x4 : Int) (x5 : Int) (A : AH)  : go true 3 S SN pb_X12_muteTold (n + 1) 106 [vR 21 190 0, vI x1, vL y2, vS, vI x4, vI x5] [] A =
    go true 3 S SN pb_X12_muteTold (n + 0) 116 [vR 21 190 0, vI x1, vL y2, vS, vI x4, vI x5] [] (wi A 224 1 (w32 ((gi A 224 1) + 1))) := rfl

set_option maxRecDepth 100000 in
theorem q_X12_muteTold_116 (S SN : SX) (n : Nat) (x1 : Int) (y2 : Int) (x4 : Int) (x5 : Int) (A : AH)  : go true 3 S SN pb_X12_muteTold (n + 1) 116 [vR 21 190 0, vI x1, vL y2, vS, vI x4, vI x5] [] A =
    some (none, A) := rfl

set_option maxRecDepth 100000 in
theorem q_X12_sumIsTold_0 (S SN : SX) (n : Nat) (x1 : Int) (x2 : Int) (A : AH)  : go true 3 S SN pb_X12_sumIsTold (n + 1) 0 [vR 21 190 0, vI x1, vI x2] [] A =
    if (gi A 190 5) = 0 then
      if (0 : Int) ≤ x1 ∧ x1 < 4 then
        if (gi A 231 x1.toNat) = (-1) then
          go true 3 S SN pb_X12_sumIsTold (n + 0) 23 [vR 21 190 0, vI x1, vI x2] [] A
        else
        cV (S 152 [vR 21 190 0, vI 5, vI x2] A) fun A1 =>
        go true 3 S SN pb_X12_sumIsTold (n + 0) 23 [vR 21 190 0, vI x1, vI x2] [] A1
      else none
    else
    go true 3 S SN pb_X12_sumIsTold (n + 0) 23 [vR 21 190 0, vI x1, vI x2] [] A := rfl

set_option maxRecDepth 100000 in
theorem q_X12_sumIsTold_23 (S SN : SX) (n : Nat) (x1 : Int) (x2 : Int) (A : AH)  : go true 3 S SN pb_X12_sumIsTold (n + 2) 23 [vR 21 190 0, vI x1, vI x2] [] A =
    if (gi A 190 5) = 0 then
      if (0 : Int) ≤ x1 ∧ x1 < 4 then
        go true 3 S SN pb_X12_sumIsTold (n + 0) 41 [vR 21 190 0, vI x1, vI x2] [] (wi A 231 x1.toNat (gi A 190 55))
      else none
    else
    some (none, A) := rfl

set_option maxRecDepth 100000 in
theorem q_X12_sumIsTold_41 (S SN : SX) (n : Nat) (x1 : Int) (x2 : Int) (A : AH)  : go true 3 S SN pb_X12_sumIsTold (n + 1) 41 [vR 21 190 0, vI x1, vI x2] [] A =
    go true 3 S SN pb_X12_sumIsTold (n + 0) 51 [vR 21 190 0, vI x1, vI x2] [] (wi (wi A 190 57 0) 190 58 0) := rfl

set_option maxRecDepth 100000 in
theorem q_X12_sumIsTold_51 (S SN : SX) (n : Nat) (x1 : Int) (x2 : Int) (A : AH)  : go true 3 S SN pb_X12_sumIsTold (n + 1) 51 [vR 21 190 0, vI x1, vI x2] [] A =
    cV (S 188 [vR 21 190 0] (wi A 190 59 0)) fun A1 =>
    if (0 : Int) ≤ x1 ∧ x1 < 4 then
      go true 3 S SN pb_X12_sumIsTold (n + 0) 70 [vR 21 190 0, vI x1, vI x2] [] (wi A1 232 x1.toNat (gi A1 190 55))
    else none := rfl

set_option maxRecDepth 100000 in
theorem q_X12_sumIsTold_70 (S SN : SX) (n : Nat) (x1 : Int) (x2 : Int) (A : AH)  : go true 3 S SN pb_X12_sumIsTold (n + 1) 70 [vR 21 190 0, vI x1, vI x2] [] A =
    some (none, A) := rfl

set_option maxRecDepth 100000 in
theorem q_X12_statementTold_0 (S SN : SX) (n : Nat)  (A : AH)  : go true 3 S SN pb_X12_statementTold (n + 4) 0 [vR 21 190 0, vU] [] A =
    if (gi A 190 52) = 60 then
      cV (S 152 [vR 21 190 0, vI 5, vI (gi A 190 2)] A) fun A1 =>
      some (none, A1)
    else
    cI (S 157 [vR 21 190 0, vR 32 194 6] A) fun r3 A2 =>
    if r3 = 0 then
      cI (S 157 [vR 21 190 0, vR 32 202 5] A2) fun r6 A5 =>
      if r6 = 0 then
        cI (S 157 [vR 21 190 0, vR 32 203 5] A5) fun r9 A8 =>
        if r9 = 0 then
          go true 3 S SN pb_X12_statementTold (n + 0) 78 [vR 21 190 0, vI (gi A 190 2)] [] A8
        else
        cV (S 172 [vR 21 190 0, vI (gi A 190 2)] A8) fun A10 =>
        go true 3 S SN pb_X12_statementTold (n + 0) 150 [vR 21 190 0, vI (gi A 190 2)] [] A10
      else
      cV (S 171 [vR 21 190 0, vI (gi A 190 2)] A5) fun A7 =>
      go true 3 S SN pb_X12_statementTold (n + 1) 150 [vR 21 190 0, vI (gi A 190 2)] [] A7
    else
    cV (S 169 [vR 21 190 0, vI (gi A 190 2)] A2) fun A4 =>
    go true 3 S SN pb_X12_statementTold (n + 2) 150 [vR 21 190 0, vI (gi A 190 2)] [] A4 := rfl

set_option maxRecDepth 100000 in
theorem q_X12_statementTold_78 (S SN : SX) (n : Nat) (x1 : Int) (A : AH)  : go true 3 S SN pb_X12_statementTold (n + 4) 78 [vR 21 190 0, vI x1] [] A =
    cI (S 157 [vR 21 190 0, vR 32 204 5] A) fun r2 A1 =>
    if r2 = 0 then
      cI (S 157 [vR 21 190 0, vR 32 207 4] A1) fun r5 A4 =>
      if r5 = 0 then
        cI (S 157 [vR 21 190 0, vR 32 209 5] A4) fun r8 A7 =>
        if r8 = 0 then
          cV (S 158 [vR 21 190 0, vR 32 210 5] A7) fun A10 =>
          cV (S 175 [vR 21 190 0, vI 1, vI x1] A10) fun A11 =>
          go true 3 S SN pb_X12_statementTold (n + 0) 150 [vR 21 190 0, vI x1] [] A11
        else
        cV (S 175 [vR 21 190 0, vI 0, vI x1] A7) fun A9 =>
        go true 3 S SN pb_X12_statementTold (n + 1) 150 [vR 21 190 0, vI x1] [] A9
      else
      cV (S 174 [vR 21 190 0, vI x1] A4) fun A6 =>
      go true 3 S SN pb_X12_statementTold (n + 2) 150 [vR 21 190 0, vI x1] [] A6
    else
    cV (S 173 [vR 21 190 0, vI x1] A1) fun A3 =>
    go true 3 S SN pb_X12_statementTold (n + 3) 150 [vR 21 190 0, vI x1] [] A3 := rfl

set_option maxRecDepth 100000 in
theorem q_X12_statementTold_150 (S SN : SX) (n : Nat) (x1 : Int) (A : AH)  : go true 3 S SN pb_X12_statementTold (n + 1) 150 [vR 21 190 0, vI x1] [] A =
    cV (S 160 [vR 21 190 0, vI 59] A) fun A1 =>
    go true 3 S SN pb_X12_statementTold (n + 0) 166 [vR 21 190 0, vI x1] [] (wi A1 190 52 (w32 ((gi A1 190 52) + 1))) := rfl

set_option maxRecDepth 100000 in
theorem q_X12_statementTold_166 (S SN : SX) (n : Nat) (x1 : Int) (A : AH)  : go true 3 S SN pb_X12_statementTold (n + 1) 166 [vR 21 190 0, vI x1] [] A =
    some (none, A) := rfl

set_option maxRecDepth 100000 in
theorem q_X12_hall_0 (S SN : SX) (n : Nat)  (A : AH)  : go true 0 S SN pb_X12_hall (n + 1) 0 [vR 21 190 0, vU] [] A =
    go true 0 S SN pb_X12_hall (n + 0) 13 [vR 21 190 0, vU] [] (wi (wi A 190 3 (gi A 190 1)) 190 1 0) := rfl

set_option maxRecDepth 100000 in
theorem q_X12_hall_13 (S SN : SX) (n : Nat) (u1 : AV) (A : AH)  : go true 0 S SN pb_X12_hall (n + 1) 13 [vR 21 190 0, u1] [] A =
    go true 0 S SN pb_X12_hall (n + 0) 23 [vR 21 190 0, u1] [] (wi (wi A 190 2 0) 190 4 (-1)) := rfl

set_option maxRecDepth 100000 in
theorem q_X12_hall_23 (S SN : SX) (n : Nat) (u1 : AV) (A : AH)  : go true 0 S SN pb_X12_hall (n + 1) 23 [vR 21 190 0, u1] [] A =
    go true 0 S SN pb_X12_hall (n + 0) 33 [vR 21 190 0, u1] [] (wi (wi A 190 5 0) 190 6 (-1)) := rfl

set_option maxRecDepth 100000 in
theorem q_X12_hall_33 (S SN : SX) (n : Nat) (u1 : AV) (A : AH)  : go true 0 S SN pb_X12_hall (n + 1) 33 [vR 21 190 0, u1] [] A =
    go true 0 S SN pb_X12_hall (n + 0) 40 [vR 21 190 0, vI 0] [] (wi A 190 55 0) := rfl

set_option maxRecDepth 100000 in
theorem q_X12_hall_40 (S SN : SX) (n : Nat) (x1 : Int) (A : AH)  : go true 0 S SN pb_X12_hall (n + 2) 40 [vR 21 190 0, vI x1] [] A =
    if x1 < 6 then
      if (0 : Int) ≤ x1 ∧ x1 < 12 then
        go true 0 S SN pb_X12_hall (n + 1) 53 [vR 21 190 0, vI x1] [] (wi A 224 x1.toNat 0)
      else none
    else
    go true 0 S SN pb_X12_hall (n + 0) 61 [vR 21 190 0, vI 0] [] A := rfl

set_option maxRecDepth 100000 in
theorem q_X12_hall_53 (S SN : SX) (n : Nat) (x1 : Int) (A : AH)  : go true 0 S SN pb_X12_hall (n + 1) 53 [vR 21 190 0, vI x1] [] A =
    go true 0 S SN pb_X12_hall (n + 0) 40 [vR 21 190 0, vI (w32 (x1 + 1))] [] A := rfl

set_option maxRecDepth 100000 in
theorem q_X12_hall_61 (S SN : SX) (n : Nat) (x1 : Int) (A : AH)  : go true 0 S SN pb_X12_hall (n + 2) 61 [vR 21 190 0, vI x1] [] A =
    if x1 < 16 then
      if (0 : Int) ≤ x1 ∧ x1 < 32 then
        go true 0 S SN pb_X12_hall (n + 1) 74 [vR 21 190 0, vI x1] [] (wi A 230 x1.toNat 0)
      else none
    else
    go true 0 S SN pb_X12_hall (n + 0) 94 [vR 21 190 0, vI x1] [] (wi (wi A 231 0 (-1)) 231 1 (-1)) := rfl

set_option maxRecDepth 100000 in
theorem q_X12_hall_74 (S SN : SX) (n : Nat) (x1 : Int) (A : AH)  : go true 0 S SN pb_X12_hall (n + 1) 74 [vR 21 190 0, vI x1] [] A =
    go true 0 S SN pb_X12_hall (n + 0) 61 [vR 21 190 0, vI (w32 (x1 + 1))] [] A := rfl

set_option maxRecDepth 100000 in
theorem q_X12_hall_94 (S SN : SX) (n : Nat) (x1 : Int) (A : AH)  : go true 0 S SN pb_X12_hall (n + 1) 94 [vR 21 190 0, vI x1] [] A =
    cV (S 167 [vR 21 190 0] A) fun A1 =>
    go true 0 S SN pb_X12_hall (n + 0) 103 [vR 21 190 0, vI x1] [] (wi A1 190 52 1) := rfl

set_option maxRecDepth 100000 in
theorem q_X12_hall_103 (S SN : SX) (n : Nat) (x1 : Int) (A : AH)  : go true 0 S SN pb_X12_hall (n + 1) 103 [vR 21 190 0, vI x1] [] A =
    if (gi A 190 5) = 0 then
      cI (S 155 [vR 21 190 0] A) fun r2 A1 =>
      if r2 = (-1) then
        go true 0 S SN pb_X12_hall (n + 0) 125 [vR 21 190 0, vI x1] [] A1
      else
      cV (S 176 [vR 21 190 0] A1) fun A3 =>
      go true 0 S SN pb_X12_hall (n + 0) 103 [vR 21 190 0, vI x1] [] A3
    else
    go true 0 S SN pb_X12_hall (n + 0) 125 [vR 21 190 0, vI x1] [] A := rfl

set_option maxRecDepth 100000 in
theorem q_X12_hall_125 (S SN : SX) (n : Nat) (x1 : Int) (A : AH)  : go true 0 S SN pb_X12_hall (n + 1) 125 [vR 21 190 0, vI x1] [] A =
    go true 0 S SN pb_X12_hall (n + 0) 141 [vR 21 190 0, vI x1] [] (wi (wi A 190 7 (gi A 190 5)) 190 8 (gi (wi A 190 7 (gi A 190 5)) 190 6)) := rfl

set_option maxRecDepth 100000 in
theorem q_X12_hall_141 (S SN : SX) (n : Nat) (x1 : Int) (A : AH)  : go true 0 S SN pb_X12_hall (n + 2) 141 [vR 21 190 0, vI x1] [] A =
    if (gi A 190 5) = 0 then
      cV (S 178 [vR 21 190 0] A) fun A1 =>
      some (some (vI (gi A1 190 52)), A1)
    else
    go true 0 S SN pb_X12_hall (n + 1) 158 [vR 21 190 0, vI x1] [] (wi A 192 1 (w32 ((gi A 192 1) + 1))) := rfl

set_option maxRecDepth 100000 in
theorem q_X12_hall_158 (S SN : SX) (n : Nat) (x1 : Int) (A : AH)  : go true 0 S SN pb_X12_hall (n + 1) 158 [vR 21 190 0, vI x1] [] A =
    some (some (vI (-1)), A) := rfl

set_option maxRecDepth 100000 in
theorem q_X12_stands_0 (S SN : SX) (n : Nat)  (A : AH)  : go true 3 S SN pb_X12_stands (n + 1) 0 [vR 21 190 0, vU] [] A =
    go true 3 S SN pb_X12_stands (n + 0) 7 [vR 21 190 0, vI 0] [] (wi A 190 53 1) := rfl

set_option maxRecDepth 100000 in
theorem q_X12_stands_7 (S SN : SX) (n : Nat) (x1 : Int) (A : AH)  : go true 3 S SN pb_X12_stands (n + 2) 7 [vR 21 190 0, vI x1] [] A =
    if x1 < 6 then
      if (0 : Int) ≤ x1 ∧ x1 < 12 then
        if (0 : Int) ≤ w32 (6 + x1) ∧ w32 (6 + x1) < 12 then
          go true 3 S SN pb_X12_stands (n + 1) 28 [vR 21 190 0, vI x1] [] (wi A 224 ((w32 (6 + x1)).toNat) (gi A 224 x1.toNat))
        else none
      else none
    else
    go true 3 S SN pb_X12_stands (n + 0) 36 [vR 21 190 0, vI 0] [] A := rfl

set_option maxRecDepth 100000 in
theorem q_X12_stands_28 (S SN : SX) (n : Nat) (x1 : Int) (A : AH)  : go true 3 S SN pb_X12_stands (n + 1) 28 [vR 21 190 0, vI x1] [] A =
    go true 3 S SN pb_X12_stands (n + 0) 7 [vR 21 190 0, vI (w32 (x1 + 1))] [] A := rfl

set_option maxRecDepth 100000 in
theorem q_X12_stands_36 (S SN : SX) (n : Nat) (x1 : Int) (A : AH)  : go true 3 S SN pb_X12_stands (n + 2) 36 [vR 21 190 0, vI x1] [] A =
    if x1 < 24 then
      if (0 : Int) ≤ x1 ∧ x1 < 48 then
        if (0 : Int) ≤ w32 (24 + x1) ∧ w32 (24 + x1) < 48 then
          go true 3 S SN pb_X12_stands (n + 1) 57 [vR 21 190 0, vI x1] [] (wi A 225 ((w32 (24 + x1)).toNat) (gi A 225 x1.toNat))
        else none
      else none
    else
    go true 3 S SN pb_X12_stands (n + 0) 65 [vR 21 190 0, vI 0] [] A := rfl

set_option maxRecDepth 100000 in
theorem q_X12_stands_57 (S SN : SX) (n : Nat) (x1 : Int) (A : AH)  : go true 3 S SN pb_X12_stands (n + 1) 57 [vR 21 190 0, vI x1] [] A =
    go true 3 S SN pb_X12_stands (n + 0) 36 [vR 21 190 0, vI (w32 (x1 + 1))] [] A := rfl

set_option maxRecDepth 100000 in
theorem q_X12_stands_65 (S SN : SX) (n : Nat) (x1 : Int) (A : AH)  : go true 3 S SN pb_X12_stands (n + 2) 65 [vR 21 190 0, vI x1] [] A =
    if x1 < 32 then
      if (0 : Int) ≤ x1 ∧ x1 < 64 then
        if (0 : Int) ≤ w32 (32 + x1) ∧ w32 (32 + x1) < 64 then
          go true 3 S SN pb_X12_stands (n + 1) 86 [vR 21 190 0, vI x1] [] (wi A 226 ((w32 (32 + x1)).toNat) (gi A 226 x1.toNat))
        else none
      else none
    else
    go true 3 S SN pb_X12_stands (n + 0) 94 [vR 21 190 0, vI 0] [] A := rfl

set_option maxRecDepth 100000 in
theorem q_X12_stands_86 (S SN : SX) (n : Nat) (x1 : Int) (A : AH)  : go true 3 S SN pb_X12_stands (n + 1) 86 [vR 21 190 0, vI x1] [] A =
    go true 3 S SN pb_X12_stands (n + 0) 65 [vR 21 190 0, vI (w32 (x1 + 1))] [] A := rfl

set_option maxRecDepth 100000 in
theorem q_X12_stands_94 (S SN : SX) (n : Nat) (x1 : Int) (A : AH)  : go true 3 S SN pb_X12_stands (n + 2) 94 [vR 21 190 0, vI x1] [] A =
    if x1 < 12 then
      if (0 : Int) ≤ x1 ∧ x1 < 24 then
        if (0 : Int) ≤ w32 (12 + x1) ∧ w32 (12 + x1) < 24 then
          go true 3 S SN pb_X12_stands (n + 1) 115 [vR 21 190 0, vI x1] [] (wi A 227 ((w32 (12 + x1)).toNat) (gi A 227 x1.toNat))
        else none
      else none
    else
    go true 3 S SN pb_X12_stands (n + 0) 123 [vR 21 190 0, vI 0] [] A := rfl

set_option maxRecDepth 100000 in
theorem q_X12_stands_115 (S SN : SX) (n : Nat) (x1 : Int) (A : AH)  : go true 3 S SN pb_X12_stands (n + 1) 115 [vR 21 190 0, vI x1] [] A =
    go true 3 S SN pb_X12_stands (n + 0) 94 [vR 21 190 0, vI (w32 (x1 + 1))] [] A := rfl

set_option maxRecDepth 100000 in
theorem q_X12_stands_123 (S SN : SX) (n : Nat) (x1 : Int) (A : AH)  : go true 3 S SN pb_X12_stands (n + 2) 123 [vR 21 190 0, vI x1] [] A =
    if x1 < 8 then
      if (0 : Int) ≤ x1 ∧ x1 < 16 then
        if (0 : Int) ≤ w32 (8 + x1) ∧ w32 (8 + x1) < 16 then
          go true 3 S SN pb_X12_stands (n + 1) 144 [vR 21 190 0, vI x1] [] (wi A 228 ((w32 (8 + x1)).toNat) (gi A 228 x1.toNat))
        else none
      else none
    else
    go true 3 S SN pb_X12_stands (n + 0) 152 [vR 21 190 0, vI 0] [] A := rfl

set_option maxRecDepth 100000 in
theorem q_X12_stands_144 (S SN : SX) (n : Nat) (x1 : Int) (A : AH)  : go true 3 S SN pb_X12_stands (n + 1) 144 [vR 21 190 0, vI x1] [] A =
    go true 3 S SN pb_X12_stands (n + 0) 123 [vR 21 190 0, vI (w32 (x1 + 1))] [] A := rfl

set_option maxRecDepth 100000 in
theorem q_X12_stands_152 (S SN : SX) (n : Nat) (x1 : Int) (A : AH)  : go true 3 S SN pb_X12_stands (n + 2) 152 [vR 21 190 0, vI x1] [] A =
    if x1 < 18 then
      if (0 : Int) ≤ x1 ∧ x1 < 36 then
        if (0 : Int) ≤ w32 (18 + x1) ∧ w32 (18 + x1) < 36 then
          go true 3 S SN pb_X12_stands (n + 1) 173 [vR 21 190 0, vI x1] [] (wi A 229 ((w32 (18 + x1)).toNat) (gi A 229 x1.toNat))
        else none
      else none
    else
    go true 3 S SN pb_X12_stands (n + 0) 181 [vR 21 190 0, vI 0] [] A := rfl

set_option maxRecDepth 100000 in
theorem q_X12_stands_173 (S SN : SX) (n : Nat) (x1 : Int) (A : AH)  : go true 3 S SN pb_X12_stands (n + 1) 173 [vR 21 190 0, vI x1] [] A =
    go true 3 S SN pb_X12_stands (n + 0) 152 [vR 21 190 0, vI (w32 (x1 + 1))] [] A := rfl

set_option maxRecDepth 100000 in
theorem q_X12_stands_181 (S SN : SX) (n : Nat) (x1 : Int) (A : AH)  : go true 3 S SN pb_X12_stands (n + 2) 181 [vR 21 190 0, vI x1] [] A =
    if x1 < 16 then
      if (0 : Int) ≤ x1 ∧ x1 < 32 then
        if (0 : Int) ≤ w32 (16 + x1) ∧ w32 (16 + x1) < 32 then
          go true 3 S SN pb_X12_stands (n + 1) 202 [vR 21 190 0, vI x1] [] (wi A 230 ((w32 (16 + x1)).toNat) (gi A 230 x1.toNat))
        else none
      else none
    else
    go true 3 S SN pb_X12_stands (n + 0) 210 [vR 21 190 0, vI 0] [] A := rfl

set_option maxRecDepth 100000 in
theorem q_X12_stands_202 (S SN : SX) (n : Nat) (x1 : Int) (A : AH)  : go true 3 S SN pb_X12_stands (n + 1) 202 [vR 21 190 0, vI x1] [] A =
    go true 3 S SN pb_X12_stands (n + 0) 181 [vR 21 190 0, vI (w32 (x1 + 1))] [] A := rfl

set_option maxRecDepth 100000 in
theorem q_X12_stands_210 (S SN : SX) (n : Nat) (x1 : Int) (A : AH)  : go true 3 S SN pb_X12_stands (n + 2) 210 [vR 21 190 0, vI x1] [] A =
    if x1 < 2 then
      if (0 : Int) ≤ x1 ∧ x1 < 4 then
        if (0 : Int) ≤ w32 (2 + x1) ∧ w32 (2 + x1) < 4 then
          go true 3 S SN pb_X12_stands (n + 1) 229 [vR 21 190 0, vI x1] [] (wi A 231 ((w32 (2 + x1)).toNat) (gi A 231 x1.toNat))
        else none
      else none
    else
    go true 3 S SN pb_X12_stands (n + 0) 251 [vR 21 190 0, vI 0] [] A := rfl

set_option maxRecDepth 100000 in
theorem q_X12_stands_229 (S SN : SX) (n : Nat) (x1 : Int) (A : AH)  : go true 3 S SN pb_X12_stands (n + 1) 229 [vR 21 190 0, vI x1] [] A =
    if (0 : Int) ≤ x1 ∧ x1 < 4 then
      if (0 : Int) ≤ w32 (2 + x1) ∧ w32 (2 + x1) < 4 then
        go true 3 S SN pb_X12_stands (n + 0) 243 [vR 21 190 0, vI x1] [] (wi A 232 ((w32 (2 + x1)).toNat) (gi A 232 x1.toNat))
      else none
    else none := rfl

set_option maxRecDepth 100000 in
theorem q_X12_stands_243 (S SN : SX) (n : Nat) (x1 : Int) (A : AH)  : go true 3 S SN pb_X12_stands (n + 1) 243 [vR 21 190 0, vI x1] [] A =
    go true 3 S SN pb_X12_stands (n + 0) 210 [vR 21 190 0, vI (w32 (x1 + 1))] [] A := rfl

set_option maxRecDepth 100000 in
theorem q_X12_stands_251 (S SN : SX) (n : Nat) (x1 : Int) (A : AH)  : go true 3 S SN pb_X12_stands (n + 2) 251 [vR 21 190 0, vI x1] [] A =
    if x1 < (gi A 190 55) then
      if (0 : Int) ≤ x1 ∧ x1 < 3200 then
        if (0 : Int) ≤ w32 (1600 + x1) ∧ w32 (1600 + x1) < 3200 then
          go true 3 S SN pb_X12_stands (n + 1) 275 [vR 21 190 0, vI x1] [] (wi A 233 ((w32 (1600 + x1)).toNat) (gi A 233 x1.toNat))
        else none
      else none
    else
    go true 3 S SN pb_X12_stands (n + 0) 283 [vR 21 190 0, vI 0] [] A := rfl

set_option maxRecDepth 100000 in
theorem q_X12_stands_275 (S SN : SX) (n : Nat) (x1 : Int) (A : AH)  : go true 3 S SN pb_X12_stands (n + 1) 275 [vR 21 190 0, vI x1] [] A =
    go true 3 S SN pb_X12_stands (n + 0) 251 [vR 21 190 0, vI (w32 (x1 + 1))] [] A := rfl

set_option maxRecDepth 100000 in
theorem q_X12_stands_283 (S SN : SX) (n : Nat) (x1 : Int) (A : AH)  : go true 3 S SN pb_X12_stands (n + 2) 283 [vR 21 190 0, vI x1] [] A =
    if x1 < 146 then
      if (0 : Int) ≤ x1 ∧ x1 < 146 then
        go true 3 S SN pb_X12_stands (n + 1) 297 [vR 21 190 0, vI x1] [] (wi A 237 x1.toNat 0)
      else none
    else
    go true 3 S SN pb_X12_stands (n + 0) 312 [vR 21 190 0, vI 0] [] (wi A 237 2 (-1)) := rfl

set_option maxRecDepth 100000 in
theorem q_X12_stands_297 (S SN : SX) (n : Nat) (x1 : Int) (A : AH)  : go true 3 S SN pb_X12_stands (n + 1) 297 [vR 21 190 0, vI x1] [] A =
    go true 3 S SN pb_X12_stands (n + 0) 283 [vR 21 190 0, vI (w32 (x1 + 1))] [] A := rfl

set_option maxRecDepth 100000 in
theorem q_X12_stands_312 (S SN : SX) (n : Nat) (x1 : Int) (A : AH)  : go true 3 S SN pb_X12_stands (n + 2) 312 [vR 21 190 0, vI x1] [] A =
    if x1 < (gi A 224 0) then
      if (0 : Int) ≤ w32 ((w32 (4 * x1)) + 3) ∧ w32 ((w32 (4 * x1)) + 3) < 64 then
        if (0 : Int) ≤ w32 (3 + x1) ∧ w32 (3 + x1) < 146 then
          go true 3 S SN pb_X12_stands (n + 1) 340 [vR 21 190 0, vI x1] [] (wi A 237 ((w32 (3 + x1)).toNat) (gi A 226 ((w32 ((w32 (4 * x1)) + 3)).toNat)))
        else none
      else none
    else
    go true 3 S SN pb_X12_stands (n + 0) 348 [vR 21 190 0, vI 0] [] A := rfl

set_option maxRecDepth 100000 in
theorem q_X12_stands_340 (S SN : SX) (n : Nat) (x1 : Int) (A : AH)  : go true 3 S SN pb_X12_stands (n + 1) 340 [vR 21 190 0, vI x1] [] A =
    go true 3 S SN pb_X12_stands (n + 0) 312 [vR 21 190 0, vI (w32 (x1 + 1))] [] A := rfl

set_option maxRecDepth 100000 in
theorem q_X12_stands_348 (S SN : SX) (n : Nat) (x1 : Int) (A : AH)  : go true 3 S SN pb_X12_stands (n + 2) 348 [vR 21 190 0, vI x1] [] A =
    if x1 < 6 then
      if (0 : Int) ≤ w32 (13 + x1) ∧ w32 (13 + x1) < 146 then
        go true 3 S SN pb_X12_stands (n + 1) 364 [vR 21 190 0, vI x1] [] (wi A 237 ((w32 (13 + x1)).toNat) (-1))
      else none
    else
    some (none, wi A 190 73 0) := rfl

set_option maxRecDepth 100000 in
theorem q_X12_stands_364 (S SN : SX) (n : Nat) (x1 : Int) (A : AH)  : go true 3 S SN pb_X12_stands (n + 1) 364 [vR 21 190 0, vI x1] [] A =
    go true 3 S SN pb_X12_stands (n + 0) 348 [vR 21 190 0, vI (w32 (x1 + 1))] [] A := rfl

set_option maxRecDepth 100000 in
theorem q_X12_code_0 (S SN : SX) (n : Nat) (x1 : Int) (A : AH)  : go true 3 S SN pb_X12_code (n + 1) 0 [vR 21 190 0, vI x1] [] A =
    if (0 : Int) ≤ w32 (0 + (gi A 190 55)) ∧ w32 (0 + (gi A 190 55)) < 3200 then
      go true 3 S SN pb_X12_code (n + 0) 12 [vR 21 190 0, vI x1] [] (wi A 233 ((w32 (0 + (gi A 190 55))).toNat) x1)
    else none := rfl

set_option maxRecDepth 100000 in
theorem q_X12_code_12 (S SN : SX) (n : Nat) (x1 : Int) (A : AH)  : go true 3 S SN pb_X12_code (n + 1) 12 [vR 21 190 0, vI x1] [] A =
    go true 3 S SN pb_X12_code (n + 0) 22 [vR 21 190 0, vI x1] [] (wi A 190 55 (w32 ((gi A 190 55) + 1))) := rfl

set_option maxRecDepth 100000 in
theorem q_X12_code_22 (S SN : SX) (n : Nat) (x1 : Int) (A : AH)  : go true 3 S SN pb_X12_code (n + 1) 22 [vR 21 190 0, vI x1] [] A =
    some (none, A) := rfl

set_option maxRecDepth 100000 in
theorem q_X12_opens_0 (S SN : SX) (n : Nat) (x1 : Int) (x2 : Int) (A : AH)  : go true 3 S SN pb_X12_opens (n + 2) 0 [vR 21 190 0, vI x1, vI x2] [] A =
    if (gi A 190 58) = 6 then
      cV (S 152 [vR 21 190 0, vI 4, vI x2] A) fun A1 =>
      some (none, A1)
    else
    go true 3 S SN pb_X12_opens (n + 0) 26 [vR 21 190 0, vI x1, vI x2] [] (wi A 190 58 (w32 ((gi A 190 58) + 1))) := rfl

set_option maxRecDepth 100000 in
theorem q_X12_opens_26 (S SN : SX) (n : Nat) (x1 : Int) (x2 : Int) (A : AH)  : go true 3 S SN pb_X12_opens (n + 1) 26 [vR 21 190 0, vI x1, vI x2] [] A =
    if (0 : Int) ≤ gi A 190 57 ∧ gi A 190 57 < 1700 then
      go true 3 S SN pb_X12_opens (n + 0) 36 [vR 21 190 0, vI x1, vI x2] [] (wi A 234 ((gi A 190 57).toNat) x1)
    else none := rfl

set_option maxRecDepth 100000 in
theorem q_X12_opens_36 (S SN : SX) (n : Nat) (x1 : Int) (x2 : Int) (A : AH)  : go true 3 S SN pb_X12_opens (n + 1) 36 [vR 21 190 0, vI x1, vI x2] [] A =
    go true 3 S SN pb_X12_opens (n + 0) 46 [vR 21 190 0, vI x1, vI x2] [] (wi A 190 57 (w32 ((gi A 190 57) + 1))) := rfl

set_option maxRecDepth 100000 in
theorem q_X12_opens_46 (S SN : SX) (n : Nat) (x1 : Int) (x2 : Int) (A : AH)  : go true 3 S SN pb_X12_opens (n + 1) 46 [vR 21 190 0, vI x1, vI x2] [] A =
    some (none, A) := rfl

set_option maxRecDepth 100000 in
theorem q_X12_isOn_0 (S SN : SX) (n : Nat) (x1 : Int) (A : AH)  : go true 2 S SN pb_X12_isOn (n + 2) 0 [vR 21 190 0, vI x1] [] A =
    if 0 < (gi A 190 57) then
      if (0 : Int) ≤ w32 ((gi A 190 57) - 1) ∧ w32 ((gi A 190 57) - 1) < 1700 then
        if (gi A 234 ((w32 ((gi A 190 57) - 1)).toNat)) = x1 then
          some (some (vI 1), A)
        else
        go true 2 S SN pb_X12_isOn (n + 1) 26 [vR 21 190 0, vI x1] [] A
      else none
    else
    go true 2 S SN pb_X12_isOn (n + 1) 26 [vR 21 190 0, vI x1] [] A := rfl

set_option maxRecDepth 100000 in
theorem q_X12_isOn_26 (S SN : SX) (n : Nat) (x1 : Int) (A : AH)  : go true 2 S SN pb_X12_isOn (n + 2) 26 [vR 21 190 0, vI x1] [] A =
    some (some (vI 0), A) := rfl

set_option maxRecDepth 100000 in
theorem q_X12_drops_0 (S SN : SX) (n : Nat)  (A : AH)  : go true 3 S SN pb_X12_drops (n + 1) 0 [vR 21 190 0] [] A =
    go true 3 S SN pb_X12_drops (n + 0) 10 [vR 21 190 0] [] (wi A 190 57 (w32 ((gi A 190 57) - 1))) := rfl

set_option maxRecDepth 100000 in
theorem q_X12_drops_10 (S SN : SX) (n : Nat)  (A : AH)  : go true 3 S SN pb_X12_drops (n + 1) 10 [vR 21 190 0] [] A =
    if (0 : Int) ≤ gi A 190 57 ∧ gi A 190 57 < 1700 then
      cV (S 179 [vR 21 190 0, vI (gi A 234 ((gi A 190 57).toNat))] A) fun A1 =>
      some (none, A1)
    else none := rfl

set_option maxRecDepth 100000 in
theorem q_X12_isMark_0 (S SN : SX) (n : Nat) (x1 : Int) (A : AH)  : go true 2 S SN pb_X12_isMark (n + 2) 0 [vR 21 190 0, vI x1] [] A =
    if x1 < 20 then
      go true 2 S SN pb_X12_isMark (n + 1) 16 [vR 21 190 0, vI x1] [] A
    else
    if 24 < x1 then
      go true 2 S SN pb_X12_isMark (n + 1) 16 [vR 21 190 0, vI x1] [] A
    else
    some (some (vI 1), A) := rfl

set_option maxRecDepth 100000 in
theorem q_X12_isMark_16 (S SN : SX) (n : Nat) (x1 : Int) (A : AH)  : go true 2 S SN pb_X12_isMark (n + 2) 16 [vR 21 190 0, vI x1] [] A =
    some (some (vI 0), A) := rfl

set_option maxRecDepth 100000 in
theorem q_X12_waitsLast_0 (S SN : SX) (n : Nat)  (A : AH)  : go true 0 S SN pb_X12_waitsLast (n + 1) 0 [vR 21 190 0, vU] [] A =
    go true 0 S SN pb_X12_waitsLast (n + 0) 7 [vR 21 190 0, vI (w32 ((gi A 190 57) - 1))] [] A := rfl

set_option maxRecDepth 100000 in
theorem q_X12_waitsLast_7 (S SN : SX) (n : Nat) (x1 : Int) (A : AH)  : go true 0 S SN pb_X12_waitsLast (n + 1) 7 [vR 21 190 0, vI x1] [] A =
    if x1 < (gi A 190 59) then
      go true 0 S SN pb_X12_waitsLast (n + 0) 34 [vR 21 190 0, vI x1] [] A
    else
    if (0 : Int) ≤ x1 ∧ x1 < 1700 then
      cI (S 183 [vR 21 190 0, vI (gi A 234 x1.toNat)] A) fun r2 A1 =>
      if r2 = 0 then
        go true 0 S SN pb_X12_waitsLast (n + 0) 7 [vR 21 190 0, vI (w32 (x1 + (-1)))] [] A1
      else
      go true 0 S SN pb_X12_waitsLast (n + 0) 34 [vR 21 190 0, vI x1] [] A1
    else none := rfl

set_option maxRecDepth 100000 in
theorem q_X12_waitsLast_34 (S SN : SX) (n : Nat) (x1 : Int) (A : AH)  : go true 0 S SN pb_X12_waitsLast (n + 3) 34 [vR 21 190 0, vI x1] [] A =
    if x1 < (gi A 190 59) then
      some (some (vI (-1)), A)
    else
    if (0 : Int) ≤ x1 ∧ x1 < 1700 then
      some (some (vI (gi A 234 x1.toNat)), A)
    else none := rfl

set_option maxRecDepth 100000 in
theorem q_X12_dropsToMark_0 (S SN : SX) (n : Nat)  (A : AH)  : go true 3 S SN pb_X12_dropsToMark (n + 2) 0 [vR 21 190 0] [] A =
    if (gi A 190 59) < (gi A 190 57) then
      if (0 : Int) ≤ w32 ((gi A 190 57) - 1) ∧ w32 ((gi A 190 57) - 1) < 1700 then
        cI (S 183 [vR 21 190 0, vI (gi A 234 ((w32 ((gi A 190 57) - 1)).toNat))] A) fun r2 A1 =>
        if r2 = 0 then
          cV (S 182 [vR 21 190 0] A1) fun A3 =>
          go true 3 S SN pb_X12_dropsToMark (n + 1) 0 [vR 21 190 0] [] A3
        else
        some (none, A1)
      else none
    else
    some (none, A) := rfl

set_option maxRecDepth 100000 in
theorem q_X12_onePart_0 (S SN : SX) (n : Nat)  (A : AH)  : go true 3 S SN pb_X12_onePart (n + 1) 0 [vR 21 190 0, vU, vU, vU, vU] [] A =
    go true 3 S SN pb_X12_onePart (n + 0) 2 [vR 21 190 0, vI 1, vU, vU, vU] [] A := rfl

set_option maxRecDepth 100000 in
theorem q_X12_onePart_2 (S SN : SX) (n : Nat) (x1 : Int) (u2 : AV) (u3 : AV) (u4 : AV) (A : AH)  : go true 3 S SN pb_X12_onePart (n + 3) 2 [vR 21 190 0, vI x1, u2, u3, u4] [] A =
    if x1 = 0 then
      go true 3 S SN pb_X12_onePart (n + 2) 146 [vR 21 190 0, vI x1, u2, u3, u4] [] A
    else
    if (gi A 190 5) = 0 then
      cI (S 155 [vR 21 190 0] A) fun r2 A1 =>
      if r2 = 40 then
        cV (S 180 [vR 21 190 0, vI 20, vI (gi A1 190 2)] A1) fun A3 =>
        go true 3 S SN pb_X12_onePart (n + 2) 44 [vR 21 190 0, vI x1, vI r2, u3, u4] [] (wi A3 190 2 (w32 ((gi A3 190 2) + 1)))
      else
      cI (S 156 [vR 21 190 0, vR 32 221 3] A1) fun r5 A4 =>
      if r5 = 0 then
        cI (S 156 [vR 21 190 0, vR 32 222 3] A4) fun r7 A6 =>
        if r7 = 0 then
          go true 3 S SN pb_X12_onePart (n + 0) 143 [vR 21 190 0, vI 0, vI r2, u3, u4] [] A6
        else
        go true 3 S SN pb_X12_onePart (n + 1) 69 [vR 21 190 0, vI x1, vI r2, u3, u4] [] A6
      else
      go true 3 S SN pb_X12_onePart (n + 1) 69 [vR 21 190 0, vI x1, vI r2, u3, u4] [] A4
    else
    go true 3 S SN pb_X12_onePart (n + 2) 146 [vR 21 190 0, vI x1, u2, u3, u4] [] A := rfl

set_option maxRecDepth 100000 in
theorem q_X12_onePart_44 (S SN : SX) (n : Nat) (x1 : Int) (x2 : Int) (u3 : AV) (u4 : AV) (A : AH)  : go true 3 S SN pb_X12_onePart (n + 1) 44 [vR 21 190 0, vI x1, vI x2, u3, u4] [] A =
    go true 3 S SN pb_X12_onePart (n + 0) 143 [vR 21 190 0, vI x1, vI x2, u3, u4] [] A := rfl

set_option maxRecDepth 100000 in
theorem q_X12_onePart_69 (S SN : SX) (n : Nat) (x1 : Int) (x2 : Int) (u3 : AV) (u4 : AV) (A : AH)  : go true 3 S SN pb_X12_onePart (n + 1) 69 [vR 21 190 0, vI x1, vI x2, u3, u4] [] A =
    cI (S 157 [vR 21 190 0, vR 32 221 3] A) fun r2 A1 =>
    if r2 = 0 then
      cV (S 158 [vR 21 190 0, vR 32 222 3] A1) fun A3 =>
      go true 3 S SN pb_X12_onePart (n + 0) 90 [vR 21 190 0, vI x1, vI x2, vI r2, u4] [] A3
    else
    go true 3 S SN pb_X12_onePart (n + 0) 90 [vR 21 190 0, vI x1, vI x2, vI r2, u4] [] A1 := rfl

set_option maxRecDepth 100000 in
theorem q_X12_onePart_90 (S SN : SX) (n : Nat) (x1 : Int) (x2 : Int) (x3 : Int) (u4 : AV) (A : AH)  : go true 3 S SN pb_X12_onePart (n + 2) 90 [vR 21 190 0, vI x1, vI x2, vI x3, u4] [] A =
    cI (S 155 [vR 21 190 0] A) fun r2 A1 =>
    if r2 = 40 then
      go true 3 S SN pb_X12_onePart (n + 1) 107 [vR 21 190 0, vI x1, vI x2, vI x3, u4] [vI (gi A1 190 2)] A1
    else
    go true 3 S SN pb_X12_onePart (n + 0) 107 [vR 21 190 0, vI x1, vI x2, vI x3, u4] [vI (-1)] A1 := rfl

set_option maxRecDepth 100000 in
theorem q_X12_onePart_107 (S SN : SX) (n : Nat) (x1 : Int) (x2 : Int) (x3 : Int) (u4 : AV) (sx0 : Int) (A : AH)  : go true 3 S SN pb_X12_onePart (n + 2) 107 [vR 21 190 0, vI x1, vI x2, vI x3, u4] [vI sx0] A =
    if sx0 = (-1) then
      go true 3 S SN pb_X12_onePart (n + 1) 132 [vR 21 190 0, vI x1, vI x2, vI x3, vI sx0] [] A
    else
    if x3 = 0 then
      go true 3 S SN pb_X12_onePart (n + 0) 127 [vR 21 190 0, vI x1, vI x2, vI x3, vI sx0] [vI 22, vR 21 190 0] A
    else
    go true 3 S SN pb_X12_onePart (n + 1) 127 [vR 21 190 0, vI x1, vI x2, vI x3, vI sx0] [vI 21, vR 21 190 0] A := rfl

set_option maxRecDepth 100000 in
theorem q_X12_onePart_127 (S SN : SX) (n : Nat) (x1 : Int) (x2 : Int) (x3 : Int) (x4 : Int) (sx0 : Int) (A : AH)  : go true 3 S SN pb_X12_onePart (n + 1) 127 [vR 21 190 0, vI x1, vI x2, vI x3, vI x4] [vI sx0, vR 21 190 0] A =
    cV (S 180 [vR 21 190 0, vI sx0, vI x4] A) fun A1 =>
    go true 3 S SN pb_X12_onePart (n + 0) 132 [vR 21 190 0, vI x1, vI x2, vI x3, vI x4] [] A1 := rfl

set_option maxRecDepth 100000 in
theorem q_X12_onePart_132 (S SN : SX) (n : Nat) (x1 : Int) (x2 : Int) (x3 : Int) (x4 : Int) (A : AH)  : go true 3 S SN pb_X12_onePart (n + 1) 132 [vR 21 190 0, vI x1, vI x2, vI x3, vI x4] [] A =
    cV (S 160 [vR 21 190 0, vI 40] A) fun A1 =>
    go true 3 S SN pb_X12_onePart (n + 0) 143 [vR 21 190 0, vI x1, vI x2, vI x3, vI x4] [] A1 := rfl

set_option maxRecDepth 100000 in
theorem q_X12_onePart_143 (S SN : SX) (n : Nat) (x1 : Int) (x2 : Int) (u3 : AV) (u4 : AV) (A : AH)  : go true 3 S SN pb_X12_onePart (n + 1) 143 [vR 21 190 0, vI x1, vI x2, u3, u4] [] A =
    go true 3 S SN pb_X12_onePart (n + 0) 2 [vR 21 190 0, vI x1, vI x2, u3, u4] [] A := rfl

set_option maxRecDepth 100000 in
theorem q_X12_onePart_146 (S SN : SX) (n : Nat) (x1 : Int) (u2 : AV) (u3 : AV) (u4 : AV) (A : AH)  : go true 3 S SN pb_X12_onePart (n + 5) 146 [vR 21 190 0, vI x1, u2, u3, u4] [] A =
    if (gi A 190 5) = 0 then
      cI (S 157 [vR 21 190 0, vR 32 195 5] A) fun r2 A1 =>
      if r2 = 0 then
        cI (S 157 [vR 21 190 0, vR 32 196 6] A1) fun r4 A3 =>
        if r4 = 0 then
          cI (S 157 [vR 21 190 0, vR 32 211 4] A3) fun r6 A5 =>
          if r6 = 0 then
            cI (S 157 [vR 21 190 0, vR 32 212 5] A5) fun r8 A7 =>
            if r8 = 0 then
              go true 3 S SN pb_X12_onePart (n + 0) 218 [vR 21 190 0, vI x1, u2, u3, u4] [] A7
            else
            go true 3 S SN pb_X12_onePart (n + 0) 283 [vR 21 190 0, vI x1, u2, u3, u4] [vI 10] A7
          else
          go true 3 S SN pb_X12_onePart (n + 1) 283 [vR 21 190 0, vI x1, u2, u3, u4] [vI 9] A5
        else
        go true 3 S SN pb_X12_onePart (n + 2) 283 [vR 21 190 0, vI x1, u2, u3, u4] [vI 8] A3
      else
      go true 3 S SN pb_X12_onePart (n + 3) 283 [vR 21 190 0, vI x1, u2, u3, u4] [vI 7] A1
    else
    some (none, A) := rfl

set_option maxRecDepth 100000 in
theorem q_X12_onePart_218 (S SN : SX) (n : Nat) (x1 : Int) (u2 : AV) (u3 : AV) (u4 : AV) (A : AH)  : go true 3 S SN pb_X12_onePart (n + 5) 218 [vR 21 190 0, vI x1, u2, u3, u4] [] A =
    cI (S 157 [vR 21 190 0, vR 32 213 5] A) fun r2 A1 =>
    if r2 = 0 then
      cI (S 157 [vR 21 190 0, vR 32 204 5] A1) fun r4 A3 =>
      if r4 = 0 then
        cI (S 157 [vR 21 190 0, vR 32 205 4] A3) fun r6 A5 =>
        if r6 = 0 then
          cI (S 157 [vR 21 190 0, vR 32 214 6] A5) fun r8 A7 =>
          if r8 = 0 then
            go true 3 S SN pb_X12_onePart (n + 0) 283 [vR 21 190 0, vI x1, u2, u3, u4] [vI (-1)] A7
          else
          go true 3 S SN pb_X12_onePart (n + 1) 283 [vR 21 190 0, vI x1, u2, u3, u4] [vI 14] A7
        else
        go true 3 S SN pb_X12_onePart (n + 2) 283 [vR 21 190 0, vI x1, u2, u3, u4] [vI 13] A5
      else
      go true 3 S SN pb_X12_onePart (n + 3) 283 [vR 21 190 0, vI x1, u2, u3, u4] [vI 12] A3
    else
    go true 3 S SN pb_X12_onePart (n + 4) 283 [vR 21 190 0, vI x1, u2, u3, u4] [vI 11] A1 := rfl

set_option maxRecDepth 100000 in
theorem q_X12_onePart_283 (S SN : SX) (n : Nat) (x1 : Int) (u2 : AV) (u3 : AV) (u4 : AV) (sx0 : Int) (A : AH)  : go true 3 S SN pb_X12_onePart (n + 2) 283 [vR 21 190 0, vI x1, u2, u3, u4] [vI sx0] A =
    if sx0 = (-1) then
      cI (S 161 [vR 21 190 0, vI 0, vI 9999] A) fun r2 A1 =>
      go true 3 S SN pb_X12_onePart (n + 0) 306 [vR 21 190 0, vI x1, vI sx0, u3, u4] [vI (w32 (1000 + r2)), vR 21 190 0] A1
    else
    go true 3 S SN pb_X12_onePart (n + 1) 306 [vR 21 190 0, vI x1, vI sx0, u3, u4] [vI sx0, vR 21 190 0] A := rfl

set_option maxRecDepth 100000 in
theorem q_X12_onePart_306 (S SN : SX) (n : Nat) (x1 : Int) (x2 : Int) (u3 : AV) (u4 : AV) (sx0 : Int) (A : AH)  : go true 3 S SN pb_X12_onePart (n + 1) 306 [vR 21 190 0, vI x1, vI x2, u3, u4] [vI sx0, vR 21 190 0] A =
    cV (S 179 [vR 21 190 0, vI sx0] A) fun A1 =>
    some (none, A1) := rfl

set_option maxRecDepth 100000 in
theorem q_X12_goesOn_0 (S SN : SX) (n : Nat)  (A : AH)  : go true 2 S SN pb_X12_goesOn (n + 1) 0 [vR 21 190 0, vU] [] A =
    if (gi A 190 5) = 0 then
      cI (S 155 [vR 21 190 0] A) fun r2 A1 =>
      if r2 = 41 then
        cI (S 184 [vR 21 190 0] A1) fun r4 A3 =>
        if r4 = 20 then
          go true 2 S SN pb_X12_goesOn (n + 0) 43 [vR 21 190 0, vU] [] A3
        else
        cI (S 184 [vR 21 190 0] A3) fun r6 A5 =>
        if r6 = 23 then
          go true 2 S SN pb_X12_goesOn (n + 0) 43 [vR 21 190 0, vU] [] A5
        else
        cI (S 184 [vR 21 190 0] A5) fun r8 A7 =>
        if r8 = 24 then
          go true 2 S SN pb_X12_goesOn (n + 0) 43 [vR 21 190 0, vU] [] A7
        else
        go true 2 S SN pb_X12_goesOn (n + 0) 118 [vR 21 190 0, vU] [] A7
      else
      go true 2 S SN pb_X12_goesOn (n + 0) 118 [vR 21 190 0, vU] [] A1
    else
    go true 2 S SN pb_X12_goesOn (n + 0) 118 [vR 21 190 0, vU] [] A := rfl

set_option maxRecDepth 100000 in
theorem q_X12_goesOn_43 (S SN : SX) (n : Nat) (u1 : AV) (A : AH)  : go true 2 S SN pb_X12_goesOn (n + 1) 43 [vR 21 190 0, u1] [] A =
    go true 2 S SN pb_X12_goesOn (n + 0) 53 [vR 21 190 0, u1] [] (wi A 190 2 (w32 ((gi A 190 2) + 1))) := rfl

set_option maxRecDepth 100000 in
theorem q_X12_goesOn_53 (S SN : SX) (n : Nat) (u1 : AV) (A : AH)  : go true 2 S SN pb_X12_goesOn (n + 1) 53 [vR 21 190 0, u1] [] A =
    cV (S 185 [vR 21 190 0] A) fun A1 =>
    go true 2 S SN pb_X12_goesOn (n + 0) 67 [vR 21 190 0, u1] [] (wi A1 190 57 (w32 ((gi A1 190 57) - 1))) := rfl

set_option maxRecDepth 100000 in
theorem q_X12_goesOn_67 (S SN : SX) (n : Nat) (u1 : AV) (A : AH)  : go true 2 S SN pb_X12_goesOn (n + 1) 67 [vR 21 190 0, u1] [] A =
    go true 2 S SN pb_X12_goesOn (n + 0) 77 [vR 21 190 0, u1] [] (wi A 190 58 (w32 ((gi A 190 58) - 1))) := rfl

set_option maxRecDepth 100000 in
theorem q_X12_goesOn_77 (S SN : SX) (n : Nat) (u1 : AV) (A : AH)  : go true 2 S SN pb_X12_goesOn (n + 2) 77 [vR 21 190 0, u1] [] A =
    if (0 : Int) ≤ gi A 190 57 ∧ gi A 190 57 < 1700 then
      if (gi A 234 ((gi A 190 57).toNat)) = 20 then
        go true 2 S SN pb_X12_goesOn (n + 1) 0 [vR 21 190 0, u1] [] A
      else
      if (0 : Int) ≤ gi A 190 57 ∧ gi A 190 57 < 1700 then
        if (gi A 234 ((gi A 190 57).toNat)) = 23 then
          go true 2 S SN pb_X12_goesOn (n + 1) 112 [vR 21 190 0, u1] [vI 5, vR 21 190 0] A
        else
        go true 2 S SN pb_X12_goesOn (n + 0) 112 [vR 21 190 0, u1] [vI 6, vR 21 190 0] A
      else none
    else none := rfl

set_option maxRecDepth 100000 in
theorem q_X12_goesOn_112 (S SN : SX) (n : Nat) (u1 : AV) (sx0 : Int) (A : AH)  : go true 2 S SN pb_X12_goesOn (n + 1) 112 [vR 21 190 0, u1] [vI sx0, vR 21 190 0] A =
    cV (S 179 [vR 21 190 0, vI sx0] A) fun A1 =>
    go true 2 S SN pb_X12_goesOn (n + 0) 0 [vR 21 190 0, u1] [] A1 := rfl

set_option maxRecDepth 100000 in
theorem q_X12_goesOn_118 (S SN : SX) (n : Nat) (u1 : AV) (A : AH)  : go true 2 S SN pb_X12_goesOn (n + 5) 118 [vR 21 190 0, u1] [] A =
    cI (S 159 [vR 21 190 0, vI 42] A) fun r2 A1 =>
    if r2 = 0 then
      cI (S 159 [vR 21 190 0, vI 47] A1) fun r4 A3 =>
      if r4 = 0 then
        cI (S 159 [vR 21 190 0, vI 43] A3) fun r6 A5 =>
        if r6 = 0 then
          cI (S 159 [vR 21 190 0, vI 45] A5) fun r8 A7 =>
          if r8 = 0 then
            cI (S 184 [vR 21 190 0] A7) fun r10 A9 =>
            if r10 = 21 then
              go true 2 S SN pb_X12_goesOn (n + 2) 322 [vR 21 190 0, u1] [] A9
            else
            cI (S 184 [vR 21 190 0] A9) fun r12 A11 =>
            if r12 = 22 then
              go true 2 S SN pb_X12_goesOn (n + 2) 322 [vR 21 190 0, u1] [] A11
            else
            cI (S 184 [vR 21 190 0] A11) fun r14 A13 =>
            if r14 = (-1) then
              some (some (vI 0), A13)
            else
            if (gi A13 190 5) = 0 then
              cV (S 152 [vR 21 190 0, vI 1, vI (gi A13 190 2)] A13) fun A15 =>
              some (some (vI 0), A15)
            else
            some (some (vI 0), A13)
          else
          go true 2 S SN pb_X12_goesOn (n + 3) 221 [vR 21 190 0, u1] [] A7
        else
        go true 2 S SN pb_X12_goesOn (n + 3) 221 [vR 21 190 0, u1] [] A5
      else
      go true 2 S SN pb_X12_goesOn (n + 4) 136 [vR 21 190 0, u1] [] A3
    else
    go true 2 S SN pb_X12_goesOn (n + 4) 136 [vR 21 190 0, u1] [] A1 := rfl

set_option maxRecDepth 100000 in
theorem q_X12_goesOn_136 (S SN : SX) (n : Nat) (u1 : AV) (A : AH)  : go true 2 S SN pb_X12_goesOn (n + 2) 136 [vR 21 190 0, u1] [] A =
    if (0 : Int) ≤ w32 ((gi A 190 2) - 1) ∧ w32 ((gi A 190 2) - 1) < 1600 then
      if (gi A 191 ((w32 ((gi A 190 2) - 1)).toNat)) = 42 then
        go true 2 S SN pb_X12_goesOn (n + 1) 157 [vR 21 190 0, u1] [vI 3] A
      else
      go true 2 S SN pb_X12_goesOn (n + 0) 157 [vR 21 190 0, u1] [vI 4] A
    else none := rfl

set_option maxRecDepth 100000 in
theorem q_X12_goesOn_157 (S SN : SX) (n : Nat) (u1 : AV) (sx0 : Int) (A : AH)  : go true 2 S SN pb_X12_goesOn (n + 1) 157 [vR 21 190 0, u1] [vI sx0] A =
    go true 2 S SN pb_X12_goesOn (n + 0) 158 [vR 21 190 0, vI sx0] [] A := rfl

set_option maxRecDepth 100000 in
theorem q_X12_goesOn_158 (S SN : SX) (n : Nat) (x1 : Int) (A : AH)  : go true 2 S SN pb_X12_goesOn (n + 2) 158 [vR 21 190 0, vI x1] [] A =
    cI (S 181 [vR 21 190 0, vI 3] A) fun r2 A1 =>
    if r2 = 0 then
      cI (S 181 [vR 21 190 0, vI 4] A1) fun r4 A3 =>
      if r4 = 0 then
        if (0 : Int) ≤ gi A3 190 57 ∧ gi A3 190 57 < 1700 then
          go true 2 S SN pb_X12_goesOn (n + 0) 191 [vR 21 190 0, vI x1] [] (wi A3 234 ((gi A3 190 57).toNat) x1)
        else none
      else
      go true 2 S SN pb_X12_goesOn (n + 1) 174 [vR 21 190 0, vI x1] [] A3
    else
    go true 2 S SN pb_X12_goesOn (n + 1) 174 [vR 21 190 0, vI x1] [] A1 := rfl

set_option maxRecDepth 100000 in
theorem q_X12_goesOn_174 (S SN : SX) (n : Nat) (x1 : Int) (A : AH)  : go true 2 S SN pb_X12_goesOn (n + 1) 174 [vR 21 190 0, vI x1] [] A =
    cV (S 182 [vR 21 190 0] A) fun A1 =>
    go true 2 S SN pb_X12_goesOn (n + 0) 158 [vR 21 190 0, vI x1] [] A1 := rfl

set_option maxRecDepth 100000 in
theorem q_X12_goesOn_191 (S SN : SX) (n : Nat) (x1 : Int) (A : AH)  : go true 2 S SN pb_X12_goesOn (n + 1) 191 [vR 21 190 0, vI x1] [] A =
    go true 2 S SN pb_X12_goesOn (n + 0) 201 [vR 21 190 0, vI x1] [] (wi A 190 57 (w32 ((gi A 190 57) + 1))) := rfl

set_option maxRecDepth 100000 in
theorem q_X12_goesOn_201 (S SN : SX) (n : Nat) (x1 : Int) (A : AH)  : go true 2 S SN pb_X12_goesOn (n + 1) 201 [vR 21 190 0, vI x1] [] A =
    some (some (vI 1), A) := rfl

set_option maxRecDepth 100000 in
theorem q_X12_goesOn_221 (S SN : SX) (n : Nat) (u1 : AV) (A : AH)  : go true 2 S SN pb_X12_goesOn (n + 2) 221 [vR 21 190 0, u1] [] A =
    if (0 : Int) ≤ w32 ((gi A 190 2) - 1) ∧ w32 ((gi A 190 2) - 1) < 1600 then
      if (gi A 191 ((w32 ((gi A 190 2) - 1)).toNat)) = 43 then
        go true 2 S SN pb_X12_goesOn (n + 1) 242 [vR 21 190 0, u1] [vI 1] A
      else
      go true 2 S SN pb_X12_goesOn (n + 0) 242 [vR 21 190 0, u1] [vI 2] A
    else none := rfl

set_option maxRecDepth 100000 in
theorem q_X12_goesOn_242 (S SN : SX) (n : Nat) (u1 : AV) (sx0 : Int) (A : AH)  : go true 2 S SN pb_X12_goesOn (n + 1) 242 [vR 21 190 0, u1] [vI sx0] A =
    go true 2 S SN pb_X12_goesOn (n + 0) 243 [vR 21 190 0, vI sx0] [] A := rfl

set_option maxRecDepth 100000 in
theorem q_X12_goesOn_243 (S SN : SX) (n : Nat) (x1 : Int) (A : AH)  : go true 2 S SN pb_X12_goesOn (n + 2) 243 [vR 21 190 0, vI x1] [] A =
    cI (S 181 [vR 21 190 0, vI 3] A) fun r2 A1 =>
    if r2 = 0 then
      cI (S 181 [vR 21 190 0, vI 4] A1) fun r4 A3 =>
      if r4 = 0 then
        cI (S 181 [vR 21 190 0, vI 1] A3) fun r6 A5 =>
        if r6 = 0 then
          cI (S 181 [vR 21 190 0, vI 2] A5) fun r8 A7 =>
          if r8 = 0 then
            if (0 : Int) ≤ gi A7 190 57 ∧ gi A7 190 57 < 1700 then
              go true 2 S SN pb_X12_goesOn (n + 0) 292 [vR 21 190 0, vI x1] [] (wi A7 234 ((gi A7 190 57).toNat) x1)
            else none
          else
          go true 2 S SN pb_X12_goesOn (n + 1) 275 [vR 21 190 0, vI x1] [] A7
        else
        go true 2 S SN pb_X12_goesOn (n + 1) 275 [vR 21 190 0, vI x1] [] A5
      else
      go true 2 S SN pb_X12_goesOn (n + 1) 275 [vR 21 190 0, vI x1] [] A3
    else
    go true 2 S SN pb_X12_goesOn (n + 1) 275 [vR 21 190 0, vI x1] [] A1 := rfl

set_option maxRecDepth 100000 in
theorem q_X12_goesOn_275 (S SN : SX) (n : Nat) (x1 : Int) (A : AH)  : go true 2 S SN pb_X12_goesOn (n + 1) 275 [vR 21 190 0, vI x1] [] A =
    cV (S 182 [vR 21 190 0] A) fun A1 =>
    go true 2 S SN pb_X12_goesOn (n + 0) 243 [vR 21 190 0, vI x1] [] A1 := rfl

set_option maxRecDepth 100000 in
theorem q_X12_goesOn_292 (S SN : SX) (n : Nat) (x1 : Int) (A : AH)  : go true 2 S SN pb_X12_goesOn (n + 1) 292 [vR 21 190 0, vI x1] [] A =
    go true 2 S SN pb_X12_goesOn (n + 0) 302 [vR 21 190 0, vI x1] [] (wi A 190 57 (w32 ((gi A 190 57) + 1))) := rfl

set_option maxRecDepth 100000 in
theorem q_X12_goesOn_302 (S SN : SX) (n : Nat) (x1 : Int) (A : AH)  : go true 2 S SN pb_X12_goesOn (n + 1) 302 [vR 21 190 0, vI x1] [] A =
    some (some (vI 1), A) := rfl

set_option maxRecDepth 100000 in
theorem q_X12_goesOn_322 (S SN : SX) (n : Nat) (u1 : AV) (A : AH)  : go true 2 S SN pb_X12_goesOn (n + 2) 322 [vR 21 190 0, u1] [] A =
    cV (S 160 [vR 21 190 0, vI 44] A) fun A1 =>
    if (gi A1 190 5) = 0 then
      cV (S 185 [vR 21 190 0] A1) fun A2 =>
      if (0 : Int) ≤ w32 ((gi A2 190 57) - 1) ∧ w32 ((gi A2 190 57) - 1) < 1700 then
        if (0 : Int) ≤ w32 ((gi A2 190 57) - 1) ∧ w32 ((gi A2 190 57) - 1) < 1700 then
          go true 2 S SN pb_X12_goesOn (n + 0) 356 [vR 21 190 0, u1] [] (wi A2 234 ((w32 ((gi A2 190 57) - 1)).toNat) (w32 ((gi A2 234 ((w32 ((gi A2 190 57) - 1)).toNat)) + 2)))
        else none
      else none
    else
    some (some (vI 0), A1) := rfl

set_option maxRecDepth 100000 in
theorem q_X12_goesOn_356 (S SN : SX) (n : Nat) (u1 : AV) (A : AH)  : go true 2 S SN pb_X12_goesOn (n + 1) 356 [vR 21 190 0, u1] [] A =
    some (some (vI 1), A) := rfl

set_option maxRecDepth 100000 in
theorem q_X12_sumsTold_0 (S SN : SX) (n : Nat)  (A : AH)  : go true 3 S SN pb_X12_sumsTold (n + 1) 0 [vR 21 190 0, vU, vU] [] A =
    go true 3 S SN pb_X12_sumsTold (n + 0) 13 [vR 21 190 0, vI (gi A 190 59), vU] [] (wi A 190 59 (gi A 190 57)) := rfl

set_option maxRecDepth 100000 in
theorem q_X12_sumsTold_13 (S SN : SX) (n : Nat) (x1 : Int) (u2 : AV) (A : AH)  : go true 3 S SN pb_X12_sumsTold (n + 1) 13 [vR 21 190 0, vI x1, u2] [] A =
    go true 3 S SN pb_X12_sumsTold (n + 0) 15 [vR 21 190 0, vI x1, vI 1] [] A := rfl

set_option maxRecDepth 100000 in
theorem q_X12_sumsTold_15 (S SN : SX) (n : Nat) (x1 : Int) (x2 : Int) (A : AH)  : go true 3 S SN pb_X12_sumsTold (n + 1) 15 [vR 21 190 0, vI x1, vI x2] [] A =
    if x2 = 0 then
      go true 3 S SN pb_X12_sumsTold (n + 0) 53 [vR 21 190 0, vI x1, vI x2] [] A
    else
    if (gi A 190 5) = 0 then
      cV (S 186 [vR 21 190 0] A) fun A1 =>
      if (gi A1 190 5) = 0 then
        cI (S 187 [vR 21 190 0] A1) fun r3 A2 =>
        if r3 = 0 then
          go true 3 S SN pb_X12_sumsTold (n + 0) 48 [vR 21 190 0, vI x1, vI x2] [] A2
        else
        go true 3 S SN pb_X12_sumsTold (n + 0) 49 [vR 21 190 0, vI x1, vI x2] [vI 1] A2
      else
      go true 3 S SN pb_X12_sumsTold (n + 0) 48 [vR 21 190 0, vI x1, vI x2] [] A1
    else
    go true 3 S SN pb_X12_sumsTold (n + 0) 53 [vR 21 190 0, vI x1, vI x2] [] A := rfl

set_option maxRecDepth 100000 in
theorem q_X12_sumsTold_48 (S SN : SX) (n : Nat) (x1 : Int) (x2 : Int) (A : AH)  : go true 3 S SN pb_X12_sumsTold (n + 1) 48 [vR 21 190 0, vI x1, vI x2] [] A =
    go true 3 S SN pb_X12_sumsTold (n + 0) 49 [vR 21 190 0, vI x1, vI x2] [vI 0] A := rfl

set_option maxRecDepth 100000 in
theorem q_X12_sumsTold_49 (S SN : SX) (n : Nat) (x1 : Int) (x2 : Int) (sx0 : Int) (A : AH)  : go true 3 S SN pb_X12_sumsTold (n + 1) 49 [vR 21 190 0, vI x1, vI x2] [vI sx0] A =
    go true 3 S SN pb_X12_sumsTold (n + 0) 15 [vR 21 190 0, vI x1, vI sx0] [] A := rfl

set_option maxRecDepth 100000 in
theorem q_X12_sumsTold_53 (S SN : SX) (n : Nat) (x1 : Int) (x2 : Int) (A : AH)  : go true 3 S SN pb_X12_sumsTold (n + 1) 53 [vR 21 190 0, vI x1, vI x2] [] A =
    if (gi A 190 5) = 0 then
      if (gi A 190 59) < (gi A 190 57) then
        cV (S 182 [vR 21 190 0] A) fun A1 =>
        go true 3 S SN pb_X12_sumsTold (n + 0) 53 [vR 21 190 0, vI x1, vI x2] [] A1
      else
      go true 3 S SN pb_X12_sumsTold (n + 0) 78 [vR 21 190 0, vI x1, vI x2] [] A
    else
    go true 3 S SN pb_X12_sumsTold (n + 0) 78 [vR 21 190 0, vI x1, vI x2] [] A := rfl

set_option maxRecDepth 100000 in
theorem q_X12_sumsTold_78 (S SN : SX) (n : Nat) (x1 : Int) (x2 : Int) (A : AH)  : go true 3 S SN pb_X12_sumsTold (n + 1) 78 [vR 21 190 0, vI x1, vI x2] [] A =
    some (none, wi A 190 59 x1) := rfl

set_option maxRecDepth 100000 in
theorem q_X12_fault_0 (S SN : SX) (n : Nat) (x1 : Int) (A : AH)  : go true 0 S SN pb_X12_fault (n + 4) 0 [vR 21 190 0, vI x1] [] A =
    if x1 = 0 then
      some (some (vI (gi A 190 7)), A)
    else
    if x1 = 1 then
      some (some (vI (gi A 190 8)), A)
    else
    some (some (vI (-1)), A) := rfl

set_option maxRecDepth 100000 in
theorem q_X12_clip_0 (S SN : SX) (n : Nat) (y0 : Int) (A : AH)  : go true 1 S SN pb_X12_clip (n + 4) 0 [vL y0, vS] [] A =
    if 0 < (lcp y0 1000000) then
      some (some (vL 1000000), A)
    else
    if (lcp y0 (-1000000)) < 0 then
      some (some (vL (-1000000)), A)
    else
    some (some (vL y0), A) := rfl

set_option maxRecDepth 100000 in
theorem q_X12_floor_0 (S SN : SX) (n : Nat) (y0 : Int) (y2 : Int) (A : AH)  : go true 1 S SN pb_X12_floor (n + 3) 0 [vL y0, vS, vL y2, vS, vU, vU] [] A =
    if (lcp y2 0) = 0 then some (some (vL 0), A) else
    if y2 = 0 then none else
    if y2 = 0 then none else
    if (lcp (y0.tmod y2) 0) = 0 then
      go true 1 S SN pb_X12_floor (n + 1) 53 [vL y0, vS, vL y2, vS, vL (w64 (y0.tdiv y2)), vS] [] A
    else
    if (lcp y0 0) < 0 then
      go true 1 S SN pb_X12_floor (n + 1) 32 [vL y0, vS, vL y2, vS, vL (w64 (y0.tdiv y2)), vS] [vI 1] A
    else
    go true 1 S SN pb_X12_floor (n + 0) 32 [vL y0, vS, vL y2, vS, vL (w64 (y0.tdiv y2)), vS] [vI 0] A := rfl

set_option maxRecDepth 100000 in
theorem q_X12_floor_32 (S SN : SX) (n : Nat) (y0 : Int) (y2 : Int) (y4 : Int) (sx0 : Int) (A : AH)  : go true 1 S SN pb_X12_floor (n + 2) 32 [vL y0, vS, vL y2, vS, vL y4, vS] [vI sx0] A =
    if (lcp y2 0) < 0 then
      go true 1 S SN pb_X12_floor (n + 1) 43 [vL y0, vS, vL y2, vS, vL y4, vS] [vI 1, vI sx0] A
    else
    go true 1 S SN pb_X12_floor (n + 0) 43 [vL y0, vS, vL y2, vS, vL y4, vS] [vI 0, vI sx0] A := rfl

set_option maxRecDepth 100000 in
theorem q_X12_floor_43 (S SN : SX) (n : Nat) (y0 : Int) (y2 : Int) (y4 : Int) (sx0 : Int) (sx1 : Int) (A : AH)  : go true 1 S SN pb_X12_floor (n + 2) 43 [vL y0, vS, vL y2, vS, vL y4, vS] [vI sx0, vI sx1] A =
    if sx1 = sx0 then
      go true 1 S SN pb_X12_floor (n + 1) 53 [vL y0, vS, vL y2, vS, vL y4, vS] [] A
    else
    some (some (vL (w64 (y4 - 1))), A) := rfl

set_option maxRecDepth 100000 in
theorem q_X12_floor_53 (S SN : SX) (n : Nat) (y0 : Int) (y2 : Int) (y4 : Int) (A : AH)  : go true 1 S SN pb_X12_floor (n + 2) 53 [vL y0, vS, vL y2, vS, vL y4, vS] [] A =
    some (some (vL y4), A) := rfl

set_option maxRecDepth 100000 in
theorem q_X12_puts_0 (S SN : SX) (n : Nat) (y1 : Int) (A : AH)  : go true 3 S SN pb_X12_puts (n + 1) 0 [vR 21 190 0, vL y1, vS] [] A =
    if (0 : Int) ≤ gi A 190 61 ∧ gi A 190 61 < 1700 then
      go true 3 S SN pb_X12_puts (n + 0) 10 [vR 21 190 0, vL y1, vS] [] (wi A 235 ((gi A 190 61).toNat) y1)
    else none := rfl

set_option maxRecDepth 100000 in
theorem q_X12_puts_10 (S SN : SX) (n : Nat) (y1 : Int) (A : AH)  : go true 3 S SN pb_X12_puts (n + 1) 10 [vR 21 190 0, vL y1, vS] [] A =
    go true 3 S SN pb_X12_puts (n + 0) 20 [vR 21 190 0, vL y1, vS] [] (wi A 190 61 (w32 ((gi A 190 61) + 1))) := rfl

set_option maxRecDepth 100000 in
theorem q_X12_puts_20 (S SN : SX) (n : Nat) (y1 : Int) (A : AH)  : go true 3 S SN pb_X12_puts (n + 1) 20 [vR 21 190 0, vL y1, vS] [] A =
    some (none, A) := rfl

set_option maxRecDepth 100000 in
theorem q_X12_joins_0 (S SN : SX) (n : Nat) (x1 : Int) (A : AH)  : go true 3 S SN pb_X12_joins (n + 1) 0 [vR 21 190 0, vI x1, vU, vU, vU, vU] [] A =
    if (0 : Int) ≤ w32 ((gi A 190 61) - 1) ∧ w32 ((gi A 190 61) - 1) < 1700 then
      if (0 : Int) ≤ w32 ((gi A 190 61) - 2) ∧ w32 ((gi A 190 61) - 2) < 1700 then
        go true 3 S SN pb_X12_joins (n + 0) 35 [vR 21 190 0, vI x1, vL (gi A 235 ((w32 ((gi A 190 61) - 1)).toNat)), vS, vL (gi A 235 ((w32 ((gi A 190 61) - 2)).toNat)), vS] [] (wi A 190 61 (w32 ((gi A 190 61) - 2)))
      else none
    else none := rfl

set_option maxRecDepth 100000 in
theorem q_X12_joins_35 (S SN : SX) (n : Nat) (x1 : Int) (y2 : Int) (y4 : Int) (A : AH)  : go true 3 S SN pb_X12_joins (n + 3) 35 [vR 21 190 0, vI x1, vL y2, vS, vL y4, vS] [] A =
    if x1 = 1 then
      cL (S 190 [vL (w64 (y4 + y2))] A) fun r2 A1 =>
      cV (S 192 [vR 21 190 0, vL r2] A1) fun A3 =>
      some (none, A3)
    else
    if x1 = 2 then
      cL (S 190 [vL (w64 (y4 - y2))] A) fun r5 A4 =>
      cV (S 192 [vR 21 190 0, vL r5] A4) fun A6 =>
      some (none, A6)
    else
    if x1 = 3 then
      cL (S 190 [vL (w64 (y4 * y2))] A) fun r8 A7 =>
      cV (S 192 [vR 21 190 0, vL r8] A7) fun A9 =>
      some (none, A9)
    else
    if x1 = 4 then
      cL (S 191 [vL y4, vL y2] A) fun r11 A10 =>
      cV (S 192 [vR 21 190 0, vL r11] A10) fun A12 =>
      some (none, A12)
    else
    if x1 = 5 then
      if (lcp y4 y2) < 0 then
        go true 3 S SN pb_X12_joins (n + 1) 141 [vR 21 190 0, vI x1, vL y2, vS, vL y4, vS] [vL y4, vR 21 190 0] A
      else
      go true 3 S SN pb_X12_joins (n + 0) 141 [vR 21 190 0, vI x1, vL y2, vS, vL y4, vS] [vL y2, vR 21 190 0] A
    else
    if 0 < (lcp y4 y2) then
      go true 3 S SN pb_X12_joins (n + 1) 161 [vR 21 190 0, vI x1, vL y2, vS, vL y4, vS] [vL y4, vR 21 190 0] A
    else
    go true 3 S SN pb_X12_joins (n + 0) 161 [vR 21 190 0, vI x1, vL y2, vS, vL y4, vS] [vL y2, vR 21 190 0] A := rfl

set_option maxRecDepth 100000 in
theorem q_X12_joins_141 (S SN : SX) (n : Nat) (x1 : Int) (y2 : Int) (y4 : Int) (sy0 : Int) (A : AH)  : go true 3 S SN pb_X12_joins (n + 2) 141 [vR 21 190 0, vI x1, vL y2, vS, vL y4, vS] [vL sy0, vR 21 190 0] A =
    cV (S 192 [vR 21 190 0, vL sy0] A) fun A1 =>
    some (none, A1) := rfl

set_option maxRecDepth 100000 in
theorem q_X12_joins_161 (S SN : SX) (n : Nat) (x1 : Int) (y2 : Int) (y4 : Int) (sy0 : Int) (A : AH)  : go true 3 S SN pb_X12_joins (n + 2) 161 [vR 21 190 0, vI x1, vL y2, vS, vL y4, vS] [vL sy0, vR 21 190 0] A =
    cV (S 192 [vR 21 190 0, vL sy0] A) fun A1 =>
    some (none, A1) := rfl

set_option maxRecDepth 100000 in
theorem q_X12_seatMany_0 (S SN : SX) (n : Nat)  (A : AH)  : go true 0 S SN pb_X12_seatMany (n + 1) 0 [vR 21 190 0] [] A =
    some (some (vI (gi A 224 11)), A) := rfl

set_option maxRecDepth 100000 in
theorem q_X12_peopleMany_0 (S SN : SX) (n : Nat)  (A : AH)  : go true 0 S SN pb_X12_peopleMany (n + 1) 0 [vR 21 190 0] [] A =
    some (some (vI (gi A 224 6)), A) := rfl

set_option maxRecDepth 100000 in
theorem q_X12_muteMany_0 (S SN : SX) (n : Nat)  (A : AH)  : go true 0 S SN pb_X12_muteMany (n + 1) 0 [vR 21 190 0] [] A =
    some (some (vI (gi A 224 7)), A) := rfl

set_option maxRecDepth 100000 in
theorem q_X12_pointMany_0 (S SN : SX) (n : Nat)  (A : AH)  : go true 0 S SN pb_X12_pointMany (n + 1) 0 [vR 21 190 0] [] A =
    some (some (vI (gi A 224 8)), A) := rfl
