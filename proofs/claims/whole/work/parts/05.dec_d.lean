set_option maxRecDepth 100000 in
theorem q_X11_feed_0 (S SN : SX) (n : Nat) (x1 : Int) (x2 : Int) (x3 : Int) (x4 : Int) (x5 : Int) (A : AH)  : go true 0 S SN pb_X11_feed (n + 2) 0 [vR 20 40 0, vI x1, vI x2, vI x3, vI x4, vI x5] [] A =
    if 1600 < (w32 ((gi A 40 1) + 20)) then
      cI (S 141 [vR 20 40 0, vI 0] A) fun r2 A1 =>
      some (some (vI (-1)), A1)
    else
    cV (S 143 [vR 20 40 0, vI x1] A) fun A3 =>
    cV (S 143 [vR 20 40 0, vI x2] A3) fun A4 =>
    cV (S 143 [vR 20 40 0, vI x3] A4) fun A5 =>
    cV (S 143 [vR 20 40 0, vI x4] A5) fun A6 =>
    cV (S 143 [vR 20 40 0, vI x5] A6) fun A7 =>
    some (some (vI (gi A7 40 1)), A7) := rfl

set_option maxRecDepth 100000 in
theorem q_X11_end_0 (S SN : SX) (n : Nat) (x1 : Int) (A : AH)  : go true 2 S SN pb_X11_end (n + 2) 0 [vR 20 40 0, vI x1] [] A =
    if x1 < 0 then
      go true 2 S SN pb_X11_end (n + 1) 12 [vR 20 40 0, vI x1] [] A
    else
    if (gi A 40 1) < x1 then
      go true 2 S SN pb_X11_end (n + 1) 12 [vR 20 40 0, vI x1] [] A
    else
    some (some (vI 1), wi A 40 1 x1) := rfl

set_option maxRecDepth 100000 in
theorem q_X11_end_12 (S SN : SX) (n : Nat) (x1 : Int) (A : AH)  : go true 2 S SN pb_X11_end (n + 1) 12 [vR 20 40 0, vI x1] [] A =
    cI (S 141 [vR 20 40 0, vI 0] A) fun r2 A1 =>
    some (some (vI 0), A1) := rfl

set_option maxRecDepth 100000 in
theorem q_X11_hall_0 (S SN : SX) (n : Nat)  (A : AH)  : go true 0 S SN pb_X11_hall (n + 2) 0 [vR 20 40 0, vU] [] A =
    cI (S 144 [vR 20 40 0] A) fun r2 A1 =>
    cV (S 84 [vR 18 42 0, vR 30 41 1600, vI r2] A1) fun A3 =>
    cR 13 (S 54 [vR 14 46 0] A3) fun p5 l6 A4 =>
    if p5 = 0 then
      cI (S 141 [vR 20 40 0, vI 1] A4) fun r8 A7 =>
      some (some (vI (-1)), A7)
    else
    cV (S 96 [vR 19 68 0, vR 13 (gr (wr A4 40 5 p5) 40 5) 0] (wr A4 40 5 p5)) fun A9 =>
    cV (S 75 [vR 16 78 0] A9) fun A10 =>
    if gr A10 40 5 = 0 then none else
    some (some (vI (gi A10 (gr A10 40 5) 0)), A10) := rfl

set_option maxRecDepth 100000 in
theorem q_X11_fault_0 (S SN : SX) (n : Nat) (x1 : Int) (A : AH)  : go true 0 S SN pb_X11_fault (n + 4) 0 [vR 20 40 0, vI x1] [] A =
    if x1 = 0 then some (some (vI (gi A 42 11)), A) else
    if x1 = 1 then
      some (some (vI (gi A 42 12)), A)
    else
    some (some (vI (-1)), A) := rfl

set_option maxRecDepth 100000 in
theorem q_X11_has_0 (S SN : SX) (n : Nat) (x1 : Int) (A : AH)  : go true 0 S SN pb_X11_has (n + 2) 0 [vR 20 40 0, vI x1] [] A =
    if x1 = 0 then
      if gr A 40 5 = 0 then none else
      some (some (vI (gi A (gr A 40 5) 1)), A)
    else
    if x1 = 1 then
      if gr A 40 5 = 0 then none else
      some (some (vI (gi A (gr A 40 5) 2)), A)
    else
    if x1 = 2 then
      if gr A 40 5 = 0 then none else
      some (some (vI (gi A (gr A 40 5) 3)), A)
    else
    if x1 = 3 then
      if gr A 40 5 = 0 then none else
      some (some (vI (gi A (gr A 40 5) 4)), A)
    else
    if x1 = 4 then
      if gr A 40 5 = 0 then none else
      some (some (vI (gi A (gr A 40 5) 5)), A)
    else
    if x1 = 5 then
      cI (S 104 [vR 19 68 0, vR 13 (gr A 40 5) 0] A) fun r2 A1 =>
      some (some (vI r2), A1)
    else
    if x1 = 6 then
      some (some (vI (gi A 68 0)), A)
    else
    if x1 = 7 then
      some (some (vI (gi A 68 2)), A)
    else
    if x1 = 8 then
      if gr A 40 5 = 0 then none else
      some (some (vI (gi A (gr A 40 5) 6)), A)
    else
    if x1 = 9 then
      cI (S 106 [vR 19 68 0] A) fun r4 A3 =>
      some (some (vI r4), A3)
    else
    if x1 = 10 then
      some (some (vI (gi A 78 2)), A)
    else
    some (some (vI (-1)), A) := rfl

set_option maxRecDepth 100000 in
theorem q_X11_scale_0 (S SN : SX) (n : Nat)  (A : AH)  : go true 0 S SN pb_X11_scale (n + 1) 0 [vR 20 40 0] [] A =
    some (some (vI (gi A 68 1)), A) := rfl

set_option maxRecDepth 100000 in
theorem q_X11_letter_0 (S SN : SX) (n : Nat) (x1 : Int) (x2 : Int) (x3 : Int) (A : AH)  : go true 0 S SN pb_X11_letter (n + 5) 0 [vR 20 40 0, vI x1, vI x2, vI x3] [] A =
    if x3 < 0 then
      some (some (vI (-1)), A)
    else
    if x3 < 6 then
      if x1 = 0 then
        if x2 < 0 then
          go true 0 S SN pb_X11_letter (n + 2) 67 [vR 20 40 0, vI x1, vI x2, vI x3] [] A
        else
        if gr A 40 5 = 0 then none else
        if x2 < (gi A (gr A 40 5) 2) then
          if gr A 40 5 = 0 then none else
          cI (S 48 [vR 13 (gr A 40 5) 0, vI x2, vI x3] A) fun r2 A1 =>
          some (some (vI r2), A1)
        else
        go true 0 S SN pb_X11_letter (n + 2) 67 [vR 20 40 0, vI x1, vI x2, vI x3] [] A
      else
      if x1 = 1 then
        if gr A 40 5 = 0 then none else
        cI (S 45 [vR 13 (gr A 40 5) 0, vI x2] A) fun r4 A3 =>
        if r4 = 0 then
          some (some (vI (-1)), A3)
        else
        if gr A3 40 5 = 0 then none else
        cI (S 48 [vR 13 (gr A3 40 5) 0, vI (w32 (10 + x2)), vI x3] A3) fun r6 A5 =>
        some (some (vI r6), A5)
      else
      if x1 = 2 then
        if gr A 40 5 = 0 then none else
        cI (S 46 [vR 13 (gr A 40 5) 0, vI x2] A) fun r8 A7 =>
        if r8 = 0 then
          some (some (vI (-1)), A7)
        else
        if gr A7 40 5 = 0 then none else
        cI (S 48 [vR 13 (gr A7 40 5) 0, vI (w32 (16 + x2)), vI x3] A7) fun r10 A9 =>
        some (some (vI r10), A9)
      else
      some (some (vI (-1)), A)
    else
    some (some (vI (-1)), A) := rfl

set_option maxRecDepth 100000 in
theorem q_X11_letter_67 (S SN : SX) (n : Nat) (x1 : Int) (x2 : Int) (x3 : Int) (A : AH)  : go true 0 S SN pb_X11_letter (n + 2) 67 [vR 20 40 0, vI x1, vI x2, vI x3] [] A =
    some (some (vI (-1)), A) := rfl

set_option maxRecDepth 100000 in
theorem q_X11_sits_0 (S SN : SX) (n : Nat) (x1 : Int) (x2 : Int) (A : AH)  : go true 0 S SN pb_X11_sits (n + 3) 0 [vR 20 40 0, vI x1, vI x2] [] A =
    cI (S 98 [vR 19 68 0, vI x1] A) fun r2 A1 =>
    if r2 = 0 then some (some (vI (-1)), A1) else
    cV (S 1 [vR 10 180 0, vR 13 (gr A1 40 5) 0, vR 19 68 0] A1) fun A3 =>
    cV (S 4 [vR 10 180 0, vI x1] A3) fun A4 =>
    if x2 = 0 then
      if (0 : Int) ≤ x1 ∧ x1 < 16 then some (some (vI (gi A4 (68 + 1) x1.toNat)), A4) else
      none
    else
    if x2 = 1 then
      if (0 : Int) ≤ x1 ∧ x1 < 16 then some (some (vI (gi A4 (68 + 2) x1.toNat)), A4) else
      none
    else
    if x2 = 2 then
      some (some (vI (gi A4 181 0)), A4)
    else
    if x2 = 3 then
      some (some (vI (gi A4 181 1)), A4)
    else
    if x2 = 4 then
      some (some (vI (gi A4 181 2)), A4)
    else
    if x2 = 5 then
      some (some (vI (gi A4 181 3)), A4)
    else
    if x2 = 6 then
      cI (S 5 [vR 10 180 0] A4) fun r6 A5 =>
      some (some (vI r6), A5)
    else
    if x2 = 7 then
      cI (S 6 [vR 10 180 0] A4) fun r8 A7 =>
      some (some (vI r8), A7)
    else
    some (some (vI (-1)), A4) := rfl

set_option maxRecDepth 100000 in
theorem q_X11_seat_0 (S SN : SX) (n : Nat) (x1 : Int) (A : AH)  : go true 0 S SN pb_X11_seat (n + 1) 0 [vR 20 40 0, vI x1] [] A =
    cI (S 99 [vR 19 68 0, vI x1] A) fun r2 A1 =>
    some (some (vI r2), A1) := rfl

set_option maxRecDepth 100000 in
theorem q_X11_mute_0 (S SN : SX) (n : Nat) (x1 : Int) (x2 : Int) (A : AH)  : go true 0 S SN pb_X11_mute (n + 5) 0 [vR 20 40 0, vI x1, vI x2, vU] [] A =
    if gr A 40 5 = 0 then none else
    cI (S 45 [vR 13 (gr A 40 5) 0, vI x1] A) fun r2 A1 =>
    if r2 = 0 then some (some (vI (-1)), A1) else
    if x2 = 0 then
      if gr A1 40 5 = 0 then none else
      if (0 : Int) ≤ w32 (10 + x1) ∧ w32 (10 + x1) < 16 then some (some (vI (gi A1 (gr A1 40 5 + 2) ((w32 (10 + x1)).toNat))), A1) else
      none
    else
    if x2 = 1 then
      if gr A1 40 5 = 0 then none else
      if (0 : Int) ≤ x1 ∧ x1 < 6 then some (some (vI (gi A1 (gr A1 40 5 + 6) x1.toNat)), A1) else
      none
    else
    if x2 = 2 then
      cI (S 98 [vR 19 68 0, vI (w32 (10 + x1))] A1) fun r4 A3 =>
      if r4 = 0 then
        some (some (vI 0), A3)
      else
      some (some (vI 1), A3)
    else
    some (some (vI (-1)), A1) := rfl

set_option maxRecDepth 100000 in
theorem q_X11_noise_0 (S SN : SX) (n : Nat) (x1 : Int) (x2 : Int) (A : AH)  : go true 0 S SN pb_X11_noise (n + 2) 0 [vR 20 40 0, vI x1, vI x2] [] A =
    if gr A 40 5 = 0 then none else
    cI (S 44 [vR 13 (gr A 40 5) 0, vI x1] A) fun r2 A1 =>
    if r2 = 0 then
      some (some (vI (-1)), A1)
    else
    if x2 < 0 then
      some (some (vI (-1)), A1)
    else
    if 999 < x2 then
      some (some (vI (-1)), A1)
    else
    if gr A1 40 5 = 0 then none else
    cI (S 49 [vR 13 (gr A1 40 5) 0, vI x1, vI x2, vI (-1)] A1) fun r4 A3 =>
    some (some (vI r4), A3) := rfl

set_option maxRecDepth 100000 in
theorem q_X11_kept_0 (S SN : SX) (n : Nat) (x1 : Int) (x2 : Int) (A : AH)  : go true 0 S SN pb_X11_kept (n + 1) 0 [vR 20 40 0, vI x1, vI x2] [] A =
    cI (S 107 [vR 19 68 0, vI x1, vI x2] A) fun r2 A1 =>
    some (some (vI r2), A1) := rfl

set_option maxRecDepth 100000 in
theorem q_X11_mean_0 (S SN : SX) (n : Nat) (x1 : Int) (A : AH)  : go true 1 S SN pb_X11_mean (n + 2) 0 [vR 20 40 0, vI x1] [] A =
    if x1 < 0 then
      some (some (vL (-1000000000000000)), A)
    else
    if 200 < x1 then
      some (some (vL (-1000000000000000)), A)
    else
    if 999 < (w32 ((gi A 68 0) + x1)) then
      some (some (vL (-1000000000000000)), A)
    else
    cV (S 1 [vR 10 180 0, vR 13 (gr A 40 5) 0, vR 19 68 0] A) fun A1 =>
    cL (S 10 [vR 10 180 0, vI x1] A1) fun r3 A2 =>
    some (some (vL r3), A2) := rfl

set_option maxRecDepth 100000 in
theorem q_X11_odds_0 (S SN : SX) (n : Nat) (x1 : Int) (A : AH)  : go true 0 S SN pb_X11_odds (n + 2) 0 [vR 20 40 0, vI x1] [] A =
    if x1 < 0 then
      some (some (vI (-1)), A)
    else
    if 2 < x1 then
      some (some (vI (-1)), A)
    else
    cI (S 18 [vR 11 185 0, vR 13 (gr A 40 5) 0, vR 19 68 0, vI x1] A) fun r2 A1 =>
    some (some (vI r2), A1) := rfl

set_option maxRecDepth 100000 in
theorem q_X11_hire_0 (S SN : SX) (n : Nat) (x1 : Int) (x2 : Int) (x3 : Int) (x4 : Int) (A : AH)  : go true 0 S SN pb_X11_hire (n + 3) 0 [vR 20 40 0, vI x1, vI x2, vI x3, vI x4, vU] [] A =
    cI (S 142 [vI x1] A) fun r2 A1 =>
    if r2 = 0 then
      some (some (vI (-1)), A1)
    else
    if x2 < 1 then
      some (some (vI (-1)), A1)
    else
    if 50 < x2 then
      some (some (vI (-1)), A1)
    else
    if 999 < (w32 ((gi A1 68 0) + x2)) then
      some (some (vI (-1)), A1)
    else
    if x4 < 0 then
      some (some (vI (-1)), A1)
    else
    if 2 < x4 then
      some (some (vI (-1)), A1)
    else
    cI (S 20 [vR 11 185 0, vR 13 (gr A1 40 5) 0, vR 19 68 0, vI x1, vI x2, vI x3] A1) fun r4 A3 =>
    if r4 = (-1) then
      some (some (vI r4), A3)
    else
    if x4 = 1 then
      some (some (vI r4), A3)
    else
    go true 0 S SN pb_X11_hire (n + 1) 81 [vR 20 40 0, vI x1, vI x2, vI x3, vI x4, vI r4] [] A3 := rfl

set_option maxRecDepth 100000 in
theorem q_X11_hire_81 (S SN : SX) (n : Nat) (x1 : Int) (x2 : Int) (x3 : Int) (x4 : Int) (x5 : Int) (A : AH)  : go true 0 S SN pb_X11_hire (n + 3) 81 [vR 20 40 0, vI x1, vI x2, vI x3, vI x4, vI x5] [] A =
    if x4 = 0 then
      cI (S 301 [vI x5] A) fun r2 A1 =>
      some (some (vI r2), A1)
    else
    if gr A 40 5 = 0 then none else
    cI (S 52 [vR 13 (gr A 40 5) 0, vI x5] A) fun r4 A3 =>
    some (some (vI r4), A3) := rfl

set_option maxRecDepth 100000 in
theorem q_X11_change_0 (S SN : SX) (n : Nat) (x1 : Int) (x2 : Int) (A : AH)  : go true 0 S SN pb_X11_change (n + 5) 0 [vR 20 40 0, vI x1, vI x2, vU] [] A =
    cI (S 142 [vI x1] A) fun r2 A1 =>
    if r2 = 0 then
      some (some (vI (-1)), A1)
    else
    if x2 < 0 then
      some (some (vI (-1)), A1)
    else
    if 1 < x2 then
      some (some (vI (-1)), A1)
    else
    cI (S 23 [vR 11 185 0, vR 13 (gr A1 40 5) 0, vR 19 68 0, vI x1] A1) fun r4 A3 =>
    if r4 = (-1) then some (some (vI (-1)), A3) else
    if x2 = 0 then
      some (some (vI (w32 (r4.tdiv 16))), A3)
    else
    some (some (vI (r4.tmod 16)), A3) := rfl

set_option maxRecDepth 100000 in
theorem q_X11_points_0 (S SN : SX) (n : Nat) (x1 : Int) (x2 : Int) (A : AH)  : go true 1 S SN pb_X11_points (n + 3) 0 [vR 20 40 0, vI x1, vI x2] [] A =
    if gr A 40 5 = 0 then none else
    if (gi A (gr A 40 5) 3) = 0 then
      some (some (vL (-1000000000000000)), A)
    else
    if x1 < 1 then
      some (some (vL (-1000000000000000)), A)
    else
    if 3 < x1 then
      some (some (vL (-1000000000000000)), A)
    else
    if 999 < (w32 ((gi A 68 0) + x1)) then
      some (some (vL (-1000000000000000)), A)
    else
    if x2 < (-1) then
      some (some (vL (-1000000000000000)), A)
    else
    if x2 < x1 then
      if x2 = (-1) then
        cL (S 26 [vR 11 185 0, vR 13 (gr A 40 5) 0, vR 19 68 0, vI x1] A) fun r2 A1 =>
        some (some (vL r2), A1)
      else
      go true 1 S SN pb_X11_points (n + 1) 73 [vR 20 40 0, vI x1, vI x2] [] A
    else
    some (some (vL (-1000000000000000)), A) := rfl

set_option maxRecDepth 100000 in
theorem q_X11_points_73 (S SN : SX) (n : Nat) (x1 : Int) (x2 : Int) (A : AH)  : go true 1 S SN pb_X11_points (n + 2) 73 [vR 20 40 0, vI x1, vI x2] [] A =
    cI (S 25 [vR 11 185 0, vR 13 (gr A 40 5) 0, vR 19 68 0, vI x2] A) fun r2 A1 =>
    some (some (vL r2), A1) := rfl

set_option maxRecDepth 100000 in
theorem q_X11_fell_0 (S SN : SX) (n : Nat) (x1 : Int) (x2 : Int) (A : AH)  : go true 0 S SN pb_X11_fell (n + 2) 0 [vR 20 40 0, vI x1, vI x2] [] A =
    if x2 < 0 then
      some (some (vI (-1)), A)
    else
    if 2 < x2 then
      some (some (vI (-1)), A)
    else
    cI (S 27 [vR 11 185 0, vR 13 (gr A 40 5) 0, vR 19 68 0, vI x1, vI x2] A) fun r2 A1 =>
    some (some (vI r2), A1) := rfl

set_option maxRecDepth 100000 in
theorem q_X11_asked_0 (S SN : SX) (n : Nat) (x1 : Int) (x2 : Int) (A : AH)  : go true 0 S SN pb_X11_asked (n + 2) 0 [vR 20 40 0, vI x1, vI x2] [] A =
    if x2 < 0 then
      some (some (vI (-1)), A)
    else
    if gr A 40 5 = 0 then none else
    if x2 < (bshl 1 (gi A (gr A 40 5) 2)) then
      cI (S 28 [vR 11 185 0, vR 13 (gr A 40 5) 0, vR 19 68 0, vI x1, vI x2] A) fun r2 A1 =>
      some (some (vI r2), A1)
    else
    some (some (vI (-1)), A) := rfl

set_option maxRecDepth 100000 in
theorem q_X11_loudest_0 (S SN : SX) (n : Nat) (x1 : Int) (A : AH)  : go true 0 S SN pb_X11_loudest (n + 2) 0 [vR 20 40 0, vI x1] [] A =
    if gr A 40 5 = 0 then none else
    if (gi A (gr A 40 5) 4) = 0 then
      some (some (vI (-1)), A)
    else
    if x1 < 1 then
      some (some (vI (-1)), A)
    else
    if 200 < x1 then
      some (some (vI (-1)), A)
    else
    if 999 < (w32 ((gi A 68 0) + x1)) then
      some (some (vI (-1)), A)
    else
    cI (S 29 [vR 11 185 0, vR 13 (gr A 40 5) 0, vR 19 68 0, vI x1] A) fun r2 A1 =>
    some (some (vI r2), A1) := rfl

set_option maxRecDepth 100000 in
theorem q_X11_minutes_0 (S SN : SX) (n : Nat) (x1 : Int) (A : AH)  : go true 0 S SN pb_X11_minutes (n + 2) 0 [vR 20 40 0, vI x1, vU, vU] [] A =
    if gr A 40 5 = 0 then none else
    cI (S 43 [vR 13 (gr A 40 5) 0] A) fun r2 A1 =>
    if r2 = 0 then
      go true 0 S SN pb_X11_minutes (n + 1) 36 [vR 20 40 0, vI x1, vU, vU] [] A1
    else
    if x1 < 1 then
      go true 0 S SN pb_X11_minutes (n + 1) 36 [vR 20 40 0, vI x1, vU, vU] [] A1
    else
    if 100 < x1 then
      go true 0 S SN pb_X11_minutes (n + 1) 36 [vR 20 40 0, vI x1, vU, vU] [] A1
    else
    if 999 < (w32 ((gi A1 68 0) + x1)) then
      go true 0 S SN pb_X11_minutes (n + 1) 36 [vR 20 40 0, vI x1, vU, vU] [] A1
    else
    cV (S 76 [vR 16 78 0, vR 19 68 0] A1) fun A3 =>
    cV (S 1 [vR 10 180 0, vR 13 (gr A3 40 5) 0, vR 19 68 0] A3) fun A4 =>
    go true 0 S SN pb_X11_minutes (n + 0) 74 [vR 20 40 0, vI x1, vI 0, vI 0] [] A4 := rfl

set_option maxRecDepth 100000 in
theorem q_X11_minutes_36 (S SN : SX) (n : Nat) (x1 : Int) (u2 : AV) (u3 : AV) (A : AH)  : go true 0 S SN pb_X11_minutes (n + 1) 36 [vR 20 40 0, vI x1, u2, u3] [] A =
    cI (S 141 [vR 20 40 0, vI 2] A) fun r2 A1 =>
    some (some (vI (-1)), A1) := rfl

set_option maxRecDepth 100000 in
theorem q_X11_minutes_74 (S SN : SX) (n : Nat) (x1 : Int) (x2 : Int) (x3 : Int) (A : AH)  : go true 0 S SN pb_X11_minutes (n + 2) 74 [vR 20 40 0, vI x1, vI x2, vI x3] [] A =
    if x3 < x1 then
      cI (S 146 [vR 20 40 0] A) fun r2 A1 =>
      go true 0 S SN pb_X11_minutes (n + 1) 74 [vR 20 40 0, vI x1, vI (w32 (x2 + r2)), vI (w32 (x3 + 1))] [] A1
    else
    some (some (vI x2), A) := rfl

set_option maxRecDepth 100000 in
theorem q_X11_point_0 (S SN : SX) (n : Nat) (x1 : Int) (A : AH)  : go true 2 S SN pb_X11_point (n + 1) 0 [vR 20 40 0, vI x1] [] A =
    if x1 = (gi A 68 2) then
      go true 2 S SN pb_X11_point (n + 0) 27 [vR 20 40 0, vI x1] [] A
    else
    if x1 = (-1) then
      go true 2 S SN pb_X11_point (n + 0) 33 [vR 20 40 0, vI x1] [] A
    else
    if gr A 40 5 = 0 then none else
    cI (S 46 [vR 13 (gr A 40 5) 0, vI x1] A) fun r2 A1 =>
    if r2 = 0 then
      go true 2 S SN pb_X11_point (n + 0) 27 [vR 20 40 0, vI x1] [] A1
    else
    go true 2 S SN pb_X11_point (n + 0) 33 [vR 20 40 0, vI x1] [] A1 := rfl

set_option maxRecDepth 100000 in
theorem q_X11_point_27 (S SN : SX) (n : Nat) (x1 : Int) (A : AH)  : go true 2 S SN pb_X11_point (n + 1) 27 [vR 20 40 0, vI x1] [] A =
    cI (S 141 [vR 20 40 0, vI 3] A) fun r2 A1 =>
    if r2 = 0 ∨ r2 = 1 then some (some (vI r2), A1) else
    none := rfl

set_option maxRecDepth 100000 in
theorem q_X11_point_33 (S SN : SX) (n : Nat) (x1 : Int) (A : AH)  : go true 2 S SN pb_X11_point (n + 1) 33 [vR 20 40 0, vI x1] [] A =
    cV (S 76 [vR 16 78 0, vR 19 68 0] A) fun A1 =>
    go true 2 S SN pb_X11_point (n + 0) 52 [vR 20 40 0, vI x1] [] (wi A1 68 2 x1) := rfl

set_option maxRecDepth 100000 in
theorem q_X11_point_52 (S SN : SX) (n : Nat) (x1 : Int) (A : AH)  : go true 2 S SN pb_X11_point (n + 1) 52 [vR 20 40 0, vI x1] [] A =
    some (some (vI 1), A) := rfl

set_option maxRecDepth 100000 in
theorem q_X11_move_0 (S SN : SX) (n : Nat) (x1 : Int) (x2 : Int) (A : AH)  : go true 2 S SN pb_X11_move (n + 2) 0 [vR 20 40 0, vI x1, vI x2] [] A =
    cI (S 98 [vR 19 68 0, vI x1] A) fun r2 A1 =>
    if r2 = 0 then
      go true 2 S SN pb_X11_move (n + 1) 35 [vR 20 40 0, vI x1, vI x2] [] A1
    else
    if gr A1 40 5 = 0 then none else
    cI (S 44 [vR 13 (gr A1 40 5) 0, vI x2] A1) fun r4 A3 =>
    if r4 = 0 then
      go true 2 S SN pb_X11_move (n + 1) 35 [vR 20 40 0, vI x1, vI x2] [] A3
    else
    if (0 : Int) ≤ x1 ∧ x1 < 16 then
      if (gi A3 (68 + 1) x1.toNat) = x2 then
        go true 2 S SN pb_X11_move (n + 1) 35 [vR 20 40 0, vI x1, vI x2] [] A3
      else
      cV (S 76 [vR 16 78 0, vR 19 68 0] A3) fun A5 =>
      cV (S 102 [vR 19 68 0, vI x1, vI x2] A5) fun A6 =>
      some (some (vI 1), A6)
    else none := rfl

set_option maxRecDepth 100000 in
theorem q_X11_move_35 (S SN : SX) (n : Nat) (x1 : Int) (x2 : Int) (A : AH)  : go true 2 S SN pb_X11_move (n + 1) 35 [vR 20 40 0, vI x1, vI x2] [] A =
    cI (S 141 [vR 20 40 0, vI 3] A) fun r2 A1 =>
    if r2 = 0 ∨ r2 = 1 then some (some (vI r2), A1) else
    none := rfl

set_option maxRecDepth 100000 in
theorem q_X11_take_0 (S SN : SX) (n : Nat) (x1 : Int) (x2 : Int) (x3 : Int) (A : AH)  : go true 2 S SN pb_X11_take (n + 1) 0 [vR 20 40 0, vI x1, vI x2, vI x3, vU] [] A =
    if gr A 40 5 = 0 then none else
    cI (S 45 [vR 13 (gr A 40 5) 0, vI x1] A) fun r2 A1 =>
    if r2 = 0 then
      go true 2 S SN pb_X11_take (n + 0) 59 [vR 20 40 0, vI x1, vI x2, vI x3, vI (w32 (10 + x1))] [] A1
    else
    cI (S 98 [vR 19 68 0, vI (w32 (10 + x1))] A1) fun r4 A3 =>
    if r4 = 0 then
      cI (S 142 [vI x2] A3) fun r6 A5 =>
      if r6 = 0 then
        go true 2 S SN pb_X11_take (n + 0) 59 [vR 20 40 0, vI x1, vI x2, vI x3, vI (w32 (10 + x1))] [] A5
      else
      if gr A5 40 5 = 0 then none else
      cI (S 44 [vR 13 (gr A5 40 5) 0, vI x3] A5) fun r8 A7 =>
      if r8 = 0 then
        go true 2 S SN pb_X11_take (n + 0) 59 [vR 20 40 0, vI x1, vI x2, vI x3, vI (w32 (10 + x1))] [] A7
      else
      cI (S 99 [vR 19 68 0, vI x3] A7) fun r10 A9 =>
      if r10 = (-1) then
        go true 2 S SN pb_X11_take (n + 0) 65 [vR 20 40 0, vI x1, vI x2, vI x3, vI (w32 (10 + x1))] [] A9
      else
      go true 2 S SN pb_X11_take (n + 0) 59 [vR 20 40 0, vI x1, vI x2, vI x3, vI (w32 (10 + x1))] [] A9
    else
    go true 2 S SN pb_X11_take (n + 0) 59 [vR 20 40 0, vI x1, vI x2, vI x3, vI (w32 (10 + x1))] [] A3 := rfl

set_option maxRecDepth 100000 in
theorem q_X11_take_59 (S SN : SX) (n : Nat) (x1 : Int) (x2 : Int) (x3 : Int) (x4 : Int) (A : AH)  : go true 2 S SN pb_X11_take (n + 1) 59 [vR 20 40 0, vI x1, vI x2, vI x3, vI x4] [] A =
    cI (S 141 [vR 20 40 0, vI 3] A) fun r2 A1 =>
    if r2 = 0 ∨ r2 = 1 then some (some (vI r2), A1) else
    none := rfl

set_option maxRecDepth 100000 in
theorem q_X11_take_65 (S SN : SX) (n : Nat) (x1 : Int) (x2 : Int) (x3 : Int) (x4 : Int) (A : AH)  : go true 2 S SN pb_X11_take (n + 1) 65 [vR 20 40 0, vI x1, vI x2, vI x3, vI x4] [] A =
    cV (S 76 [vR 16 78 0, vR 19 68 0] A) fun A1 =>
    cV (S 100 [vR 19 68 0, vI x4, vI x2, vI x3] A1) fun A2 =>
    some (some (vI 1), A2) := rfl

set_option maxRecDepth 100000 in
theorem q_X11_dismiss_0 (S SN : SX) (n : Nat) (x1 : Int) (A : AH)  : go true 2 S SN pb_X11_dismiss (n + 2) 0 [vR 20 40 0, vI x1, vU] [] A =
    if gr A 40 5 = 0 then none else
    cI (S 45 [vR 13 (gr A 40 5) 0, vI x1] A) fun r2 A1 =>
    if r2 = 0 then
      go true 2 S SN pb_X11_dismiss (n + 1) 27 [vR 20 40 0, vI x1, vI (w32 (10 + x1))] [] A1
    else
    cI (S 98 [vR 19 68 0, vI (w32 (10 + x1))] A1) fun r4 A3 =>
    if r4 = 0 then
      go true 2 S SN pb_X11_dismiss (n + 1) 27 [vR 20 40 0, vI x1, vI (w32 (10 + x1))] [] A3
    else
    cV (S 76 [vR 16 78 0, vR 19 68 0] A3) fun A5 =>
    cV (S 101 [vR 19 68 0, vI (w32 (10 + x1))] A5) fun A6 =>
    some (some (vI 1), A6) := rfl

set_option maxRecDepth 100000 in
theorem q_X11_dismiss_27 (S SN : SX) (n : Nat) (x1 : Int) (x2 : Int) (A : AH)  : go true 2 S SN pb_X11_dismiss (n + 1) 27 [vR 20 40 0, vI x1, vI x2] [] A =
    cI (S 141 [vR 20 40 0, vI 3] A) fun r2 A1 =>
    if r2 = 0 ∨ r2 = 1 then some (some (vI r2), A1) else
    none := rfl

set_option maxRecDepth 100000 in
theorem q_X11_undo_0 (S SN : SX) (n : Nat)  (A : AH)  : go true 2 S SN pb_X11_undo (n + 3) 0 [vR 20 40 0] [] A =
    cI (S 77 [vR 16 78 0, vR 19 68 0] A) fun r2 A1 =>
    if r2 = 0 then
      cI (S 141 [vR 20 40 0, vI 4] A1) fun r4 A3 =>
      if r4 = 0 then
        some (some (vI 0), A3)
      else
      go true 2 S SN pb_X11_undo (n + 2) 22 [vR 20 40 0] [] A3
    else
    go true 2 S SN pb_X11_undo (n + 2) 22 [vR 20 40 0] [] A1 := rfl

set_option maxRecDepth 100000 in
theorem q_X11_undo_22 (S SN : SX) (n : Nat)  (A : AH)  : go true 2 S SN pb_X11_undo (n + 2) 22 [vR 20 40 0] [] A =
    some (some (vI 1), A) := rfl

set_option maxRecDepth 100000 in
theorem q_X11_seed_0 (S SN : SX) (n : Nat) (x1 : Int) (A : AH)  : go true 2 S SN pb_X11_seed (n + 2) 0 [vR 20 40 0, vI x1] [] A =
    if x1 < 0 then
      cI (S 141 [vR 20 40 0, vI 5] A) fun r2 A1 =>
      if r2 = 0 ∨ r2 = 1 then some (some (vI r2), A1) else
      none
    else
    some (some (vI 1), wi A 40 14 x1) := rfl

set_option maxRecDepth 100000 in
theorem q_X11_ask_0 (S SN : SX) (n : Nat)  (A : AH)  : go true 1 S SN pb_X11_ask (n + 4) 0 [vR 20 40 0, vU] [] A =
    cI (S 144 [vR 20 40 0] A) fun r2 A1 =>
    if gr A1 40 5 = 0 then none else
    cI (S 43 [vR 13 (gr A1 40 5) 0] A1) fun r4 A3 =>
    if r4 = 0 then some (some (vL (-1000000000000000)), A3) else
    cV (S 84 [vR 18 42 0, vR 30 41 1600, vI r2] A3) fun A5 =>
    cI (S 79 [vR 17 186 0] A5) fun r7 A6 =>
    if r7 = 0 then
      some (some (vL (-1000000000000000)), A6)
    else
    cL (S 81 [vR 17 186 0, vR 13 (gr A6 40 5) 0, vR 19 68 0] A6) fun r9 A8 =>
    some (some (vL r9), A8) := rfl

set_option maxRecDepth 100000 in
theorem q_X11_image_0 (S SN : SX) (n : Nat)  (A : AH)  : go true 0 S SN pb_X11_image (n + 1) 0 [vR 20 40 0] [] A =
    cI (S 68 [vR 15 187 0, vR 13 (gr A 40 5) 0, vR 19 68 0] A) fun r2 A1 =>
    some (some (vI r2), A1) := rfl

set_option maxRecDepth 100000 in
theorem q_X11_octet_0 (S SN : SX) (n : Nat) (x1 : Int) (A : AH)  : go true 0 S SN pb_X11_octet (n + 2) 0 [vR 20 40 0, vI x1] [] A =
    if x1 < 0 then
      go true 0 S SN pb_X11_octet (n + 1) 27 [vR 20 40 0, vI x1] [] A
    else
    if x1 < (gi A 187 1) then
      if (0 : Int) ≤ x1 ∧ x1 < 27 then
        some (some (vI (gi A 188 x1.toNat)), A)
      else none
    else
    go true 0 S SN pb_X11_octet (n + 1) 27 [vR 20 40 0, vI x1] [] A := rfl

set_option maxRecDepth 100000 in
theorem q_X11_octet_27 (S SN : SX) (n : Nat) (x1 : Int) (A : AH)  : go true 0 S SN pb_X11_octet (n + 2) 27 [vR 20 40 0, vI x1] [] A =
    some (some (vI (-1)), A) := rfl

set_option maxRecDepth 100000 in
theorem q_X11_on_0 (S SN : SX) (n : Nat)  (A : AH)  : go true 2 S SN pb_X11_on (n + 2) 0 [vR 20 40 0, vU] [] A =
    cI (S 144 [vR 20 40 0] A) fun r2 A1 =>
    if gr A1 40 5 = 0 then none else
    cI (S 43 [vR 13 (gr A1 40 5) 0] A1) fun r4 A3 =>
    if r4 = 0 then
      go true 2 S SN pb_X11_on (n + 1) 34 [vR 20 40 0, vI r2] [] A3
    else
    cI (S 71 [vR 30 41 1600, vI r2, vR 13 (gr A3 40 5) 0, vR 19 73 0] A3) fun r6 A5 =>
    if r6 = 0 then
      go true 2 S SN pb_X11_on (n + 1) 34 [vR 20 40 0, vI r2] [] A5
    else
    cV (S 97 [vR 19 68 0, vR 19 73 0] A5) fun A7 =>
    cV (S 75 [vR 16 78 0] A7) fun A8 =>
    some (some (vI 1), A8) := rfl

set_option maxRecDepth 100000 in
theorem q_X11_on_34 (S SN : SX) (n : Nat) (x1 : Int) (A : AH)  : go true 2 S SN pb_X11_on (n + 1) 34 [vR 20 40 0, vI x1] [] A =
    cI (S 141 [vR 20 40 0, vI 5] A) fun r2 A1 =>
    if r2 = 0 ∨ r2 = 1 then some (some (vI r2), A1) else
    none := rfl

set_option maxRecDepth 100000 in
theorem q_X11_status_0 (S SN : SX) (n : Nat) (x1 : Int) (A : AH)  : go true 0 S SN pb_X11_status (n + 2) 0 [vR 20 40 0, vI x1] [] A =
    if x1 < 0 then
      go true 0 S SN pb_X11_status (n + 1) 19 [vR 20 40 0, vI x1] [] A
    else
    if x1 < 6 then
      if (0 : Int) ≤ x1 ∧ x1 < 6 then
        some (some (vI (gi A 189 x1.toNat)), A)
      else none
    else
    go true 0 S SN pb_X11_status (n + 1) 19 [vR 20 40 0, vI x1] [] A := rfl

set_option maxRecDepth 100000 in
theorem q_X11_status_19 (S SN : SX) (n : Nat) (x1 : Int) (A : AH)  : go true 0 S SN pb_X11_status (n + 2) 19 [vR 20 40 0, vI x1] [] A =
    some (some (vI (-1)), A) := rfl

set_option maxRecDepth 100000 in
theorem q_X11_refuse_0 (S SN : SX) (n : Nat) (x1 : Int) (A : AH)  : go true 2 S SN pb_X11_refuse (n + 1) 0 [vR 20 40 0, vI x1] [] A =
    if (0 : Int) ≤ x1 ∧ x1 < 6 then
      if (0 : Int) ≤ x1 ∧ x1 < 6 then
        go true 2 S SN pb_X11_refuse (n + 0) 10 [vR 20 40 0, vI x1] [] (wi A 189 x1.toNat (w32 ((gi A 189 x1.toNat) + 1)))
      else none
    else none := rfl

set_option maxRecDepth 100000 in
theorem q_X11_refuse_10 (S SN : SX) (n : Nat) (x1 : Int) (A : AH)  : go true 2 S SN pb_X11_refuse (n + 1) 10 [vR 20 40 0, vI x1] [] A =
    some (some (vI 0), A) := rfl

set_option maxRecDepth 100000 in
theorem q_X11_isSide_0 (S SN : SX) (n : Nat) (x0 : Int) (A : AH)  : go true 2 S SN pb_X11_isSide (n + 3) 0 [vI x0] [] A =
    if x0 = 0 then
      go true 2 S SN pb_X11_isSide (n + 2) 9 [vI x0] [] A
    else
    if x0 = 1 then
      go true 2 S SN pb_X11_isSide (n + 2) 9 [vI x0] [] A
    else
    some (some (vI 0), A) := rfl

set_option maxRecDepth 100000 in
theorem q_X11_isSide_9 (S SN : SX) (n : Nat) (x0 : Int) (A : AH)  : go true 2 S SN pb_X11_isSide (n + 2) 9 [vI x0] [] A =
    some (some (vI 1), A) := rfl

set_option maxRecDepth 100000 in
theorem q_X11_putBytes_0 (S SN : SX) (n : Nat) (x1 : Int) (A : AH)  : go true 3 S SN pb_X11_putBytes (n + 1) 0 [vR 20 40 0, vI x1, vU] [] A =
    go true 3 S SN pb_X11_putBytes (n + 0) 3 [vR 20 40 0, vI x1, vI 24] [] A := rfl

set_option maxRecDepth 100000 in
theorem q_X11_putBytes_3 (S SN : SX) (n : Nat) (x1 : Int) (x2 : Int) (A : AH)  : go true 3 S SN pb_X11_putBytes (n + 2) 3 [vR 20 40 0, vI x1, vI x2] [] A =
    if x2 < 0 then
      some (none, A)
    else
    if (gi A 40 1) < 1600 then
      if (0 : Int) ≤ gi A 40 1 ∧ gi A 40 1 < 1600 then
        go true 3 S SN pb_X11_putBytes (n + 1) 33 [vR 20 40 0, vI x1, vI x2] [] (wi A 41 ((gi A 40 1).toNat) (band (bshr x1 x2) 255))
      else none
    else
    some (none, A) := rfl

set_option maxRecDepth 100000 in
theorem q_X11_putBytes_33 (S SN : SX) (n : Nat) (x1 : Int) (x2 : Int) (A : AH)  : go true 3 S SN pb_X11_putBytes (n + 1) 33 [vR 20 40 0, vI x1, vI x2] [] A =
    go true 3 S SN pb_X11_putBytes (n + 0) 43 [vR 20 40 0, vI x1, vI x2] [] (wi A 40 1 (w32 ((gi A 40 1) + 1))) := rfl

set_option maxRecDepth 100000 in
theorem q_X11_putBytes_43 (S SN : SX) (n : Nat) (x1 : Int) (x2 : Int) (A : AH)  : go true 3 S SN pb_X11_putBytes (n + 1) 43 [vR 20 40 0, vI x1, vI x2] [] A =
    go true 3 S SN pb_X11_putBytes (n + 0) 3 [vR 20 40 0, vI x1, vI (w32 (x2 + (-8)))] [] A := rfl

set_option maxRecDepth 100000 in
theorem q_X11_takeTape_0 (S SN : SX) (n : Nat)  (A : AH)  : go true 0 S SN pb_X11_takeTape (n + 1) 0 [vR 20 40 0, vU] [] A =
    go true 0 S SN pb_X11_takeTape (n + 0) 10 [vR 20 40 0, vI (gi A 40 1)] [] (wi A 40 1 0) := rfl

set_option maxRecDepth 100000 in
theorem q_X11_takeTape_10 (S SN : SX) (n : Nat) (x1 : Int) (A : AH)  : go true 0 S SN pb_X11_takeTape (n + 1) 10 [vR 20 40 0, vI x1] [] A =
    some (some (vI x1), A) := rfl

set_option maxRecDepth 100000 in
theorem q_X11_drawOfHundred_0 (S SN : SX) (n : Nat)  (A : AH)  : go true 0 S SN pb_X11_drawOfHundred (n + 1) 0 [vR 20 40 0] [] A =
    go true 0 S SN pb_X11_drawOfHundred (n + 0) 20 [vR 20 40 0] [] (wi A 40 14 (band (w32 ((w32 (1103515245 * (gi A 40 14))) + 12345)) 2147483647)) := rfl

set_option maxRecDepth 100000 in
theorem q_X11_drawOfHundred_20 (S SN : SX) (n : Nat)  (A : AH)  : go true 0 S SN pb_X11_drawOfHundred (n + 1) 20 [vR 20 40 0] [] A =
    some (some (vI ((w32 ((gi A 40 14).tdiv 64)).tmod 100)), A) := rfl

set_option maxRecDepth 100000 in
theorem q_X11_passMinute_0 (S SN : SX) (n : Nat)  (A : AH)  : go true 0 S SN pb_X11_passMinute (n + 1) 0 [vR 20 40 0, vU, vU] [] A =
    go true 0 S SN pb_X11_passMinute (n + 0) 14 [vR 20 40 0, vU, vU] [] (wi A 180 6 (gi A 68 0)) := rfl

set_option maxRecDepth 100000 in
theorem q_X11_passMinute_14 (S SN : SX) (n : Nat) (u1 : AV) (u2 : AV) (A : AH)  : go true 0 S SN pb_X11_passMinute (n + 1) 14 [vR 20 40 0, u1, u2] [] A =
    cV (S 3 [vR 10 180 0] A) fun A1 =>
    go true 0 S SN pb_X11_passMinute (n + 0) 25 [vR 20 40 0, vI 0, vI 0] [] A1 := rfl

set_option maxRecDepth 100000 in
theorem q_X11_passMinute_25 (S SN : SX) (n : Nat) (x1 : Int) (x2 : Int) (A : AH)  : go true 0 S SN pb_X11_passMinute (n + 1) 25 [vR 20 40 0, vI x1, vI x2] [] A =
    if gr A 40 5 = 0 then none else
    if x2 < (gi A (gr A 40 5) 2) then
      if gr A 40 5 = 0 then none else
      if (0 : Int) ≤ x2 ∧ x2 < 16 then
        if 0 < (gi A (gr A 40 5 + 3) x2.toNat) then
          cI (S 145 [vR 20 40 0] A) fun r2 A1 =>
          if gr A1 40 5 = 0 then none else
          if (0 : Int) ≤ x2 ∧ x2 < 16 then
            if r2 < (gi A1 (gr A1 40 5 + 3) x2.toNat) then
              go true 0 S SN pb_X11_passMinute (n + 0) 70 [vR 20 40 0, vI (bor x1 (bshl 1 x2)), vI x2] [] A1
            else
            go true 0 S SN pb_X11_passMinute (n + 0) 87 [vR 20 40 0, vI x1, vI x2] [] A1
          else none
        else
        go true 0 S SN pb_X11_passMinute (n + 0) 87 [vR 20 40 0, vI x1, vI x2] [] A
      else none
    else
    go true 0 S SN pb_X11_passMinute (n + 0) 93 [vR 20 40 0, vI x1, vI x2] [] A := rfl

set_option maxRecDepth 100000 in
theorem q_X11_passMinute_70 (S SN : SX) (n : Nat) (x1 : Int) (x2 : Int) (A : AH)  : go true 0 S SN pb_X11_passMinute (n + 1) 70 [vR 20 40 0, vI x1, vI x2] [] A =
    if (0 : Int) ≤ x2 ∧ x2 < 16 then
      cV (S 105 [vR 19 68 0, vI x2, vI (gi A 183 x2.toNat)] A) fun A1 =>
      go true 0 S SN pb_X11_passMinute (n + 0) 87 [vR 20 40 0, vI x1, vI x2] [] A1
    else none := rfl

set_option maxRecDepth 100000 in
theorem q_X11_passMinute_87 (S SN : SX) (n : Nat) (x1 : Int) (x2 : Int) (A : AH)  : go true 0 S SN pb_X11_passMinute (n + 1) 87 [vR 20 40 0, vI x1, vI x2] [] A =
    go true 0 S SN pb_X11_passMinute (n + 0) 25 [vR 20 40 0, vI x1, vI (w32 (x2 + 1))] [] A := rfl

set_option maxRecDepth 100000 in
theorem q_X11_passMinute_93 (S SN : SX) (n : Nat) (x1 : Int) (x2 : Int) (A : AH)  : go true 0 S SN pb_X11_passMinute (n + 1) 93 [vR 20 40 0, vI x1, vI x2] [] A =
    cI (S 7 [vR 10 180 0, vI x1] A) fun r2 A1 =>
    cI (S 147 [vL (w32 ((gi A 68 1) + r2)), vI (-99999), vI 99999] A1) fun r4 A3 =>
    go true 0 S SN pb_X11_passMinute (n + 0) 126 [vR 20 40 0, vI x1, vI x2] [] (wi A3 68 1 r4) := rfl

set_option maxRecDepth 100000 in
theorem q_X11_passMinute_126 (S SN : SX) (n : Nat) (x1 : Int) (x2 : Int) (A : AH)  : go true 0 S SN pb_X11_passMinute (n + 1) 126 [vR 20 40 0, vI x1, vI x2] [] A =
    go true 0 S SN pb_X11_passMinute (n + 0) 139 [vR 20 40 0, vI x1, vI x2] [] (wi A 68 0 (w32 ((gi A 68 0) + 1))) := rfl

set_option maxRecDepth 100000 in
theorem q_X11_passMinute_139 (S SN : SX) (n : Nat) (x1 : Int) (x2 : Int) (A : AH)  : go true 0 S SN pb_X11_passMinute (n + 1) 139 [vR 20 40 0, vI x1, vI x2] [] A =
    cI (S 301 [vI x1] A) fun r2 A1 =>
    some (some (vI r2), A1) := rfl

set_option maxRecDepth 100000 in
theorem q_X11_cut_0 (S SN : SX) (n : Nat) (y0 : Int) (x2 : Int) (x3 : Int) (A : AH)  : go true 0 S SN pb_X11_cut (n + 4) 0 [vL y0, vS, vI x2, vI x3] [] A =
    if (lcp y0 x2) < 0 then
      some (some (vI x2), A)
    else
    if 0 < (lcp y0 x3) then
      some (some (vI x3), A)
    else
    some (some (vI (w32 y0)), A) := rfl
