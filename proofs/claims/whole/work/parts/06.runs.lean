theorem r_X0_look (d : Nat) (a1 : Nat) (a2 : Nat) (A : AH) : runF (d + 1) 1 [vR 10 180 0, vR 13 a1 0, vR 19 a2 0] A = go true 3 (runF d) (runN d) pb_X0_look 1000000 0 [vR 10 180 0, vR 13 a1 0, vR 19 a2 0] [] A := rfl
theorem r_X0_suppose (d : Nat) (x1 : Int) (x2 : Int) (x3 : Int) (A : AH) : runF (d + 1) 2 [vR 10 180 0, vI x1, vI x2, vI x3] A = go true 3 (runF d) (runN d) pb_X0_suppose 1000000 0 [vR 10 180 0, vI x1, vI x2, vI x3] [] A := rfl
theorem r_X0_tally (d : Nat)  (A : AH) : runF (d + 1) 3 [vR 10 180 0] A = go true 3 (runF d) (runN d) pb_X0_tally 1000000 0 [vR 10 180 0, vU, vU] [] A := rfl
theorem r_X0_regard (d : Nat) (x1 : Int) (A : AH) : runF (d + 1) 4 [vR 10 180 0, vI x1] A = go true 3 (runF d) (runN d) pb_X0_regard 1000000 0 [vR 10 180 0, vI x1, vU, vU, vU, vU] [] A := rfl
theorem r_X0_weightNow (d : Nat)  (A : AH) : runF (d + 1) 5 [vR 10 180 0] A = go true 0 (runF d) (runN d) pb_X0_weightNow 1000000 0 [vR 10 180 0] [] A := rfl
theorem r_X0_coughNow (d : Nat)  (A : AH) : runF (d + 1) 6 [vR 10 180 0] A = go true 0 (runF d) (runN d) pb_X0_coughNow 1000000 0 [vR 10 180 0] [] A := rfl
theorem r_X0_swing (d : Nat) (x1 : Int) (A : AH) : runF (d + 1) 7 [vR 10 180 0, vI x1] A = go true 0 (runF d) (runN d) pb_X0_swing 1000000 0 [vR 10 180 0, vI x1, vU, vU, vU] [] A := rfl
theorem r_X0_meanSwing (d : Nat)  (A : AH) : runF (d + 1) 8 [vR 10 180 0] A = go true 0 (runF d) (runN d) pb_X0_meanSwing 1000000 0 [vR 10 180 0, vU, vU, vU] [] A := rfl
theorem r_X0_sideOf (d : Nat) (x1 : Int) (A : AH) : runF (d + 1) 9 [vR 10 180 0, vI x1] A = go true 0 (runF d) (runN d) pb_X0_sideOf 1000000 0 [vR 10 180 0, vI x1, vU] [] A := rfl
theorem r_X0_meanOf (d : Nat) (x1 : Int) (A : AH) : runF (d + 1) 10 [vR 10 180 0, vI x1] A = go true 1 (runF d) (runN d) pb_X0_meanOf 1000000 0 [vR 10 180 0, vI x1, vU, vU, vU, vU] [] A := rfl
theorem r_X0_run (d : Nat) (a1 : Nat) (n1 : Nat) (x2 : Int) (A : AH) : runF (d + 1) 11 [vR 10 180 0, vR 30 a1 n1, vI x2] A = go true 0 (runF d) (runN d) pb_X0_run 1000000 0 [vR 10 180 0, vR 30 a1 n1, vI x2, vU, vU, vU] [] A := rfl
theorem r_X0_push (d : Nat) (x1 : Int) (A : AH) : runF (d + 1) 12 [vR 10 180 0, vI x1] A = go true 3 (runF d) (runN d) pb_X0_push 1000000 0 [vR 10 180 0, vI x1] [] A := rfl
theorem r_X0_pop (d : Nat)  (A : AH) : runF (d + 1) 13 [vR 10 180 0] A = go true 0 (runF d) (runN d) pb_X0_pop 1000000 0 [vR 10 180 0] [] A := rfl
theorem r_X0_isBeside (d : Nat) (x1 : Int) (A : AH) : runF (d + 1) 14 [vR 10 180 0, vI x1] A = go true 2 (runF d) (runN d) pb_X0_isBeside 1000000 0 [vR 10 180 0, vI x1] [] A := rfl
theorem r_X0_reckon (d : Nat) (x0 : Int) (x1 : Int) (x2 : Int) (A : AH) : runF (d + 1) 15 [vI x0, vI x1, vI x2] A = go true 1 (runF d) (runN d) pb_X0_reckon 1000000 0 [vI x0, vI x1, vI x2] [] A := rfl
theorem r_X1_itching (d : Nat) (a0 : Nat) (A : AH) : runF (d + 1) 17 [vR 13 a0 0] A = go true 0 (runF d) (runN d) pb_X1_itching 1000000 0 [vR 13 a0 0, vU, vU] [] A := rfl
theorem r_X1_oddsOf (d : Nat) (a1 : Nat) (a2 : Nat) (x3 : Int) (A : AH) : runF (d + 1) 18 [vR 11 185 0, vR 13 a1 0, vR 19 a2 0, vI x3] A = go true 0 (runF d) (runN d) pb_X1_oddsOf 1000000 0 [vR 11 185 0, vR 13 a1 0, vR 19 a2 0, vI x3, vU, vU, vU, vU, vU, vU] [] A := rfl
theorem r_X1_chancesOf (d : Nat) (a0 : Nat) (x1 : Int) (A : AH) : runF (d + 1) 19 [vR 13 a0 0, vI x1] A = go true 1 (runF d) (runN d) pb_X1_chancesOf 1000000 0 [vR 13 a0 0, vI x1, vU, vU, vU] [] A := rfl
theorem r_X1_hired (d : Nat) (a1 : Nat) (a2 : Nat) (x3 : Int) (x4 : Int) (x5 : Int) (A : AH) : runF (d + 1) 20 [vR 11 185 0, vR 13 a1 0, vR 19 a2 0, vI x3, vI x4, vI x5] A = go true 0 (runF d) (runN d) pb_X1_hired 1000000 0 [vR 11 185 0, vR 13 a1 0, vR 19 a2 0, vI x3, vI x4, vI x5, vU, vU, vU, vU] [] A := rfl
theorem r_X1_isCheaper (d : Nat) (a0 : Nat) (x1 : Int) (x2 : Int) (A : AH) : runF (d + 1) 21 [vR 13 a0 0, vI x1, vI x2] A = go true 2 (runF d) (runN d) pb_X1_isCheaper 1000000 0 [vR 13 a0 0, vI x1, vI x2, vU] [] A := rfl
theorem r_X1_seatAside (d : Nat) (a1 : Nat) (a2 : Nat) (x3 : Int) (x4 : Int) (A : AH) : runF (d + 1) 22 [vR 11 185 0, vR 13 a1 0, vR 19 a2 0, vI x3, vI x4] A = go true 2 (runF d) (runN d) pb_X1_seatAside 1000000 0 [vR 11 185 0, vR 13 a1 0, vR 19 a2 0, vI x3, vI x4, vU, vU] [] A := rfl
theorem r_X1_changed (d : Nat) (a1 : Nat) (a2 : Nat) (x3 : Int) (A : AH) : runF (d + 1) 23 [vR 11 185 0, vR 13 a1 0, vR 19 a2 0, vI x3] A = go true 0 (runF d) (runN d) pb_X1_changed 1000000 0 [vR 11 185 0, vR 13 a1 0, vR 19 a2 0, vI x3, vU, vU, vU, vU, vU, vU] [] A := rfl
theorem r_X1_swingFor (d : Nat) (x1 : Int) (A : AH) : runF (d + 1) 24 [vR 11 185 0, vI x1] A = go true 0 (runF d) (runN d) pb_X1_swingFor 1000000 0 [vR 11 185 0, vI x1] [] A := rfl
theorem r_X1_pointOfTurn (d : Nat) (a1 : Nat) (a2 : Nat) (x3 : Int) (A : AH) : runF (d + 1) 25 [vR 11 185 0, vR 13 a1 0, vR 19 a2 0, vI x3] A = go true 0 (runF d) (runN d) pb_X1_pointOfTurn 1000000 0 [vR 11 185 0, vR 13 a1 0, vR 19 a2 0, vI x3, vU, vU, vU, vU] [] A := rfl
theorem r_X1_meanByTurns (d : Nat) (a1 : Nat) (a2 : Nat) (x3 : Int) (A : AH) : runF (d + 1) 26 [vR 11 185 0, vR 13 a1 0, vR 19 a2 0, vI x3] A = go true 1 (runF d) (runN d) pb_X1_meanByTurns 1000000 0 [vR 11 185 0, vR 13 a1 0, vR 19 a2 0, vI x3, vU, vU, vU, vU] [] A := rfl
theorem r_X1_setsBy (d : Nat) (a1 : Nat) (a2 : Nat) (x3 : Int) (x4 : Int) (A : AH) : runF (d + 1) 27 [vR 11 185 0, vR 13 a1 0, vR 19 a2 0, vI x3, vI x4] A = go true 0 (runF d) (runN d) pb_X1_setsBy 1000000 0 [vR 11 185 0, vR 13 a1 0, vR 19 a2 0, vI x3, vI x4, vU, vU, vU, vU, vU] [] A := rfl
theorem r_X1_pointsBy (d : Nat) (a1 : Nat) (a2 : Nat) (x3 : Int) (x4 : Int) (A : AH) : runF (d + 1) 28 [vR 11 185 0, vR 13 a1 0, vR 19 a2 0, vI x3, vI x4] A = go true 0 (runF d) (runN d) pb_X1_pointsBy 1000000 0 [vR 11 185 0, vR 13 a1 0, vR 19 a2 0, vI x3, vI x4, vU, vU] [] A := rfl
theorem r_X1_loudestOf (d : Nat) (a1 : Nat) (a2 : Nat) (x3 : Int) (A : AH) : runF (d + 1) 29 [vR 11 185 0, vR 13 a1 0, vR 19 a2 0, vI x3] A = go true 0 (runF d) (runN d) pb_X1_loudestOf 1000000 0 [vR 11 185 0, vR 13 a1 0, vR 19 a2 0, vI x3, vU, vU, vU, vU, vU, vU] [] A := rfl
theorem r_X2_readTest (d : Nat)  (A : AH) : runF (d + 1) 31 [vR 12 44 0] A = go true 2 (runF d) (runN d) pb_X2_readTest 1000000 0 [vR 12 44 0] [] A := rfl
theorem r_X2_readSum (d : Nat) (x1 : Int) (A : AH) : runF (d + 1) 32 [vR 12 44 0, vI x1] A = go true 2 (runF d) (runN d) pb_X2_readSum 1000000 0 [vR 12 44 0, vI x1] [] A := rfl
theorem r_X2_begin (d : Nat) (x1 : Int) (A : AH) : runF (d + 1) 33 [vR 12 44 0, vI x1] A = go true 3 (runF d) (runN d) pb_X2_begin 1000000 0 [vR 12 44 0, vI x1] [] A := rfl
theorem r_X2_copyOfSteps (d : Nat)  (A : AH) : runF (d + 1) 34 [vR 12 44 0] A = go true 30 (runF d) (runN d) pb_X2_copyOfSteps 1000000 0 [vR 12 44 0] [] A := rfl
theorem r_X2_emit (d : Nat) (x1 : Int) (A : AH) : runF (d + 1) 35 [vR 12 44 0, vI x1] A = go true 2 (runF d) (runN d) pb_X2_emit 1000000 0 [vR 12 44 0, vI x1] [] A := rfl
theorem r_X2_goIn (d : Nat) (x1 : Int) (A : AH) : runF (d + 1) 36 [vR 12 44 0, vI x1] A = go true 2 (runF d) (runN d) pb_X2_goIn 1000000 0 [vR 12 44 0, vI x1] [] A := rfl
theorem r_X2_chain (d : Nat) (x1 : Int) (x2 : Int) (A : AH) : runF (d + 1) 37 [vR 12 44 0, vI x1, vI x2] A = go true 2 (runF d) (runN d) pb_X2_chain 1000000 0 [vR 12 44 0, vI x1, vI x2, vU, vU, vU] [] A := rfl
theorem r_X2_joiner (d : Nat) (x1 : Int) (A : AH) : runF (d + 1) 38 [vR 12 44 0, vI x1] A = go true 0 (runF d) (runN d) pb_X2_joiner 1000000 0 [vR 12 44 0, vI x1] [] A := rfl
theorem r_X2_fact (d : Nat) (x1 : Int) (A : AH) : runF (d + 1) 39 [vR 12 44 0, vI x1] A = go true 2 (runF d) (runN d) pb_X2_fact 1000000 0 [vR 12 44 0, vI x1, vU] [] A := rfl
theorem r_X2_part (d : Nat) (x1 : Int) (A : AH) : runF (d + 1) 40 [vR 12 44 0, vI x1] A = go true 2 (runF d) (runN d) pb_X2_part 1000000 0 [vR 12 44 0, vI x1, vU] [] A := rfl
theorem r_X2_pair (d : Nat) (x1 : Int) (A : AH) : runF (d + 1) 41 [vR 12 44 0, vI x1] A = go true 2 (runF d) (runN d) pb_X2_pair 1000000 0 [vR 12 44 0, vI x1] [] A := rfl
theorem r_X3_isTold (d : Nat) (a0 : Nat) (A : AH) : runF (d + 1) 43 [vR 13 a0 0] A = go true 2 (runF d) (runN d) pb_X3_isTold 1000000 0 [vR 13 a0 0] [] A := rfl
theorem r_X3_isSeat (d : Nat) (a0 : Nat) (x1 : Int) (A : AH) : runF (d + 1) 44 [vR 13 a0 0, vI x1] A = go true 2 (runF d) (runN d) pb_X3_isSeat 1000000 0 [vR 13 a0 0, vI x1] [] A := rfl
theorem r_X3_isMute (d : Nat) (a0 : Nat) (x1 : Int) (A : AH) : runF (d + 1) 45 [vR 13 a0 0, vI x1] A = go true 2 (runF d) (runN d) pb_X3_isMute 1000000 0 [vR 13 a0 0, vI x1] [] A := rfl
theorem r_X3_isPoint (d : Nat) (a0 : Nat) (x1 : Int) (A : AH) : runF (d + 1) 46 [vR 13 a0 0, vI x1] A = go true 2 (runF d) (runN d) pb_X3_isPoint 1000000 0 [vR 13 a0 0, vI x1] [] A := rfl
theorem r_X3_find (d : Nat) (a0 : Nat) (x1 : Int) (A : AH) : runF (d + 1) 47 [vR 13 a0 0, vI x1] A = go true 0 (runF d) (runN d) pb_X3_find 1000000 0 [vR 13 a0 0, vI x1, vU] [] A := rfl
theorem r_X3_letterOf (d : Nat) (a0 : Nat) (x1 : Int) (x2 : Int) (A : AH) : runF (d + 1) 48 [vR 13 a0 0, vI x1, vI x2] A = go true 0 (runF d) (runN d) pb_X3_letterOf 1000000 0 [vR 13 a0 0, vI x1, vI x2, vU, vU] [] A := rfl
theorem r_X3_noiseAt (d : Nat) (a0 : Nat) (x1 : Int) (x2 : Int) (x3 : Int) (A : AH) : runF (d + 1) 49 [vR 13 a0 0, vI x1, vI x2, vI x3] A = go true 0 (runF d) (runN d) pb_X3_noiseAt 1000000 0 [vR 13 a0 0, vI x1, vI x2, vI x3, vU, vU] [] A := rfl
theorem r_X3_isNoisy (d : Nat) (a0 : Nat) (x1 : Int) (A : AH) : runF (d + 1) 50 [vR 13 a0 0, vI x1] A = go true 2 (runF d) (runN d) pb_X3_isNoisy 1000000 0 [vR 13 a0 0, vI x1, vU] [] A := rfl
theorem r_X3_areFoes (d : Nat) (a0 : Nat) (x1 : Int) (x2 : Int) (A : AH) : runF (d + 1) 51 [vR 13 a0 0, vI x1, vI x2] A = go true 2 (runF d) (runN d) pb_X3_areFoes 1000000 0 [vR 13 a0 0, vI x1, vI x2] [] A := rfl
theorem r_X3_costOf (d : Nat) (a0 : Nat) (x1 : Int) (A : AH) : runF (d + 1) 52 [vR 13 a0 0, vI x1] A = go true 0 (runF d) (runN d) pb_X3_costOf 1000000 0 [vR 13 a0 0, vI x1, vU, vU] [] A := rfl
theorem r_X4_read (d : Nat)  (A : AH) : runF (d + 1) 54 [vR 14 46 0] A = go true 13 (runF d) (runN d) pb_X4_read 1000000 0 [vR 14 46 0, vU] [] A := rfl
theorem r_X4_opening (d : Nat)  (A : AH) : runF (d + 1) 55 [vR 14 46 0] A = go true 2 (runF d) (runN d) pb_X4_opening 1000000 0 [vR 14 46 0] [] A := rfl
theorem r_X4_statement (d : Nat)  (A : AH) : runF (d + 1) 56 [vR 14 46 0] A = go true 2 (runF d) (runN d) pb_X4_statement 1000000 0 [vR 14 46 0, vU] [] A := rfl
theorem r_X4_begins (d : Nat) (x1 : Int) (x2 : Int) (A : AH) : runF (d + 1) 57 [vR 14 46 0, vI x1, vI x2] A = go true 2 (runF d) (runN d) pb_X4_begins 1000000 0 [vR 14 46 0, vI x1, vI x2] [] A := rfl
theorem r_X4_tells (d : Nat) (a1 : Nat) (x2 : Int) (x3 : Int) (x4 : Int) (A : AH) : runF (d + 1) 58 [vR 14 46 0, vR 22 a1 0, vI x2, vI x3, vI x4] A = go true 2 (runF d) (runN d) pb_X4_tells 1000000 0 [vR 14 46 0, vR 22 a1 0, vI x2, vI x3, vI x4] [] A := rfl
theorem r_X4_gives (d : Nat) (x1 : Int) (A : AH) : runF (d + 1) 59 [vR 14 46 0, vI x1] A = go true 2 (runF d) (runN d) pb_X4_gives 1000000 0 [vR 14 46 0, vI x1] [] A := rfl
theorem r_X4_person (d : Nat)  (A : AH) : runF (d + 1) 60 [vR 14 46 0] A = go true 2 (runF d) (runN d) pb_X4_person 1000000 0 [vR 14 46 0, vU, vU] [] A := rfl
theorem r_X4_partyOf (d : Nat) (x1 : Int) (A : AH) : runF (d + 1) 61 [vR 14 46 0, vI x1] A = go true 2 (runF d) (runN d) pb_X4_partyOf 1000000 0 [vR 14 46 0, vI x1, vU, vU] [] A := rfl
theorem r_X4_hatred (d : Nat)  (A : AH) : runF (d + 1) 62 [vR 14 46 0] A = go true 2 (runF d) (runN d) pb_X4_hatred 1000000 0 [vR 14 46 0, vU, vU] [] A := rfl
theorem r_X4_pointTold (d : Nat)  (A : AH) : runF (d + 1) 63 [vR 14 46 0] A = go true 2 (runF d) (runN d) pb_X4_pointTold 1000000 0 [vR 14 46 0, vU] [] A := rfl
theorem r_X4_sound (d : Nat)  (A : AH) : runF (d + 1) 64 [vR 14 46 0] A = go true 2 (runF d) (runN d) pb_X4_sound 1000000 0 [vR 14 46 0] [] A := rfl
theorem r_X4_muteTold (d : Nat)  (A : AH) : runF (d + 1) 65 [vR 14 46 0] A = go true 2 (runF d) (runN d) pb_X4_muteTold 1000000 0 [vR 14 46 0, vU] [] A := rfl
theorem r_X4_worth (d : Nat) (x1 : Int) (A : AH) : runF (d + 1) 66 [vR 14 46 0, vI x1] A = go true 2 (runF d) (runN d) pb_X4_worth 1000000 0 [vR 14 46 0, vI x1, vU] [] A := rfl
theorem r_X5_write (d : Nat) (a1 : Nat) (a2 : Nat) (A : AH) : runF (d + 1) 68 [vR 15 187 0, vR 13 a1 0, vR 19 a2 0] A = go true 0 (runF d) (runN d) pb_X5_write 1000000 0 [vR 15 187 0, vR 13 a1 0, vR 19 a2 0, vU, vU] [] A := rfl
theorem r_X5_lengthOf (d : Nat) (a0 : Nat) (A : AH) : runF (d + 1) 69 [vR 13 a0 0] A = go true 0 (runF d) (runN d) pb_X5_lengthOf 1000000 0 [vR 13 a0 0] [] A := rfl
theorem r_X5_checkOf (d : Nat) (a0 : Nat) (n0 : Nat) (x1 : Int) (A : AH) : runF (d + 1) 70 [vR 30 a0 n0, vI x1] A = go true 0 (runF d) (runN d) pb_X5_checkOf 1000000 0 [vR 30 a0 n0, vI x1, vU, vU] [] A := rfl
theorem r_X5_reads (d : Nat) (a0 : Nat) (n0 : Nat) (x1 : Int) (a2 : Nat) (a3 : Nat) (A : AH) : runF (d + 1) 71 [vR 30 a0 n0, vI x1, vR 13 a2 0, vR 19 a3 0] A = go true 2 (runF d) (runN d) pb_X5_reads 1000000 0 [vR 30 a0 n0, vI x1, vR 13 a2 0, vR 19 a3 0, vU] [] A := rfl
theorem r_X5_readsMutes (d : Nat) (a0 : Nat) (n0 : Nat) (a1 : Nat) (a2 : Nat) (A : AH) : runF (d + 1) 72 [vR 30 a0 n0, vR 13 a1 0, vR 19 a2 0] A = go true 2 (runF d) (runN d) pb_X5_readsMutes 1000000 0 [vR 30 a0 n0, vR 13 a1 0, vR 19 a2 0, vU, vU, vU, vU] [] A := rfl
theorem r_X5_seats (d : Nat) (a0 : Nat) (a1 : Nat) (x2 : Int) (x3 : Int) (x4 : Int) (A : AH) : runF (d + 1) 73 [vR 13 a0 0, vR 19 a1 0, vI x2, vI x3, vI x4] A = go true 2 (runF d) (runN d) pb_X5_seats 1000000 0 [vR 13 a0 0, vR 19 a1 0, vI x2, vI x3, vI x4] [] A := rfl
theorem r_X6_forget (d : Nat)  (A : AH) : runF (d + 1) 75 [vR 16 78 0] A = go true 3 (runF d) (runN d) pb_X6_forget 1000000 0 [vR 16 78 0] [] A := rfl
theorem r_X6_keep (d : Nat) (a1 : Nat) (A : AH) : runF (d + 1) 76 [vR 16 78 0, vR 19 a1 0] A = go true 3 (runF d) (runN d) pb_X6_keep 1000000 0 [vR 16 78 0, vR 19 a1 0] [] A := rfl
theorem r_X6_back (d : Nat) (a1 : Nat) (A : AH) : runF (d + 1) 77 [vR 16 78 0, vR 19 a1 0] A = go true 2 (runF d) (runN d) pb_X6_back 1000000 0 [vR 16 78 0, vR 19 a1 0] [] A := rfl
theorem r_X7_read (d : Nat)  (A : AH) : runF (d + 1) 79 [vR 17 186 0] A = go true 2 (runF d) (runN d) pb_X7_read 1000000 0 [vR 17 186 0, vU, vU] [] A := rfl
theorem r_X7_isOfTest (d : Nat)  (A : AH) : runF (d + 1) 80 [vR 17 186 0] A = go true 2 (runF d) (runN d) pb_X7_isOfTest 1000000 0 [vR 17 186 0] [] A := rfl
theorem r_X7_answer (d : Nat) (a1 : Nat) (a2 : Nat) (A : AH) : runF (d + 1) 81 [vR 17 186 0, vR 13 a1 0, vR 19 a2 0] A = go true 1 (runF d) (runN d) pb_X7_answer 1000000 0 [vR 17 186 0, vR 13 a1 0, vR 19 a2 0, vU, vU, vU, vU, vU] [] A := rfl
theorem r_X7_join (d : Nat) (y1 : Int) (x3 : Int) (x4 : Int) (A : AH) : runF (d + 1) 82 [vR 17 186 0, vL y1, vI x3, vI x4] A = go true 1 (runF d) (runN d) pb_X7_join 1000000 0 [vR 17 186 0, vL y1, vS, vI x3, vI x4] [] A := rfl
theorem r_X8_begin (d : Nat) (a1 : Nat) (n1 : Nat) (x2 : Int) (A : AH) : runF (d + 1) 84 [vR 18 42 0, vR 30 a1 n1, vI x2] A = go true 3 (runF d) (runN d) pb_X8_begin 1000000 0 [vR 18 42 0, vR 30 a1 n1, vI x2] [] A := rfl
theorem r_X8_fail (d : Nat) (x1 : Int) (x2 : Int) (A : AH) : runF (d + 1) 85 [vR 18 42 0, vI x1, vI x2] A = go true 2 (runF d) (runN d) pb_X8_fail 1000000 0 [vR 18 42 0, vI x1, vI x2] [] A := rfl
theorem r_X8_step (d : Nat)  (A : AH) : runF (d + 1) 86 [vR 18 42 0] A = go true 3 (runF d) (runN d) pb_X8_step 1000000 0 [vR 18 42 0, vU, vU, vU] [] A := rfl
theorem r_X8_readLetters (d : Nat)  (A : AH) : runF (d + 1) 87 [vR 18 42 0] A = go true 3 (runF d) (runN d) pb_X8_readLetters 1000000 0 [vR 18 42 0, vU] [] A := rfl
theorem r_X8_readDigits (d : Nat)  (A : AH) : runF (d + 1) 88 [vR 18 42 0] A = go true 3 (runF d) (runN d) pb_X8_readDigits 1000000 0 [vR 18 42 0] [] A := rfl
theorem r_X8_isSign (d : Nat) (x1 : Int) (A : AH) : runF (d + 1) 89 [vR 18 42 0, vI x1] A = go true 2 (runF d) (runN d) pb_X8_isSign 1000000 0 [vR 18 42 0, vI x1] [] A := rfl
theorem r_X8_takeSign (d : Nat) (x1 : Int) (A : AH) : runF (d + 1) 90 [vR 18 42 0, vI x1] A = go true 2 (runF d) (runN d) pb_X8_takeSign 1000000 0 [vR 18 42 0, vI x1] [] A := rfl
theorem r_X8_takeWord (d : Nat) (a1 : Nat) (A : AH) : runF (d + 1) 91 [vR 18 42 0, vR 22 a1 0] A = go true 2 (runF d) (runN d) pb_X8_takeWord 1000000 0 [vR 18 42 0, vR 22 a1 0] [] A := rfl
theorem r_X8_takeNumber (d : Nat) (x1 : Int) (x2 : Int) (A : AH) : runF (d + 1) 92 [vR 18 42 0, vI x1, vI x2] A = go true 2 (runF d) (runN d) pb_X8_takeNumber 1000000 0 [vR 18 42 0, vI x1, vI x2] [] A := rfl
theorem r_X8_takeName (d : Nat)  (A : AH) : runF (d + 1) 93 [vR 18 42 0] A = go true 2 (runF d) (runN d) pb_X8_takeName 1000000 0 [vR 18 42 0] [] A := rfl
theorem r_X9_clear (d : Nat) (a0 : Nat) (A : AH) : runF (d + 1) 95 [vR 19 a0 0] A = go true 3 (runF d) (runN d) pb_X9_clear 1000000 0 [vR 19 a0 0] [] A := rfl
theorem r_X9_begin (d : Nat) (a0 : Nat) (a1 : Nat) (A : AH) : runF (d + 1) 96 [vR 19 a0 0, vR 13 a1 0] A = go true 3 (runF d) (runN d) pb_X9_begin 1000000 0 [vR 19 a0 0, vR 13 a1 0, vU] [] A := rfl
theorem r_X9_copy (d : Nat) (a0 : Nat) (a1 : Nat) (A : AH) : runF (d + 1) 97 [vR 19 a0 0, vR 19 a1 0] A = go true 3 (runF d) (runN d) pb_X9_copy 1000000 0 [vR 19 a0 0, vR 19 a1 0] [] A := rfl
theorem r_X9_isThere (d : Nat) (a0 : Nat) (x1 : Int) (A : AH) : runF (d + 1) 98 [vR 19 a0 0, vI x1] A = go true 2 (runF d) (runN d) pb_X9_isThere 1000000 0 [vR 19 a0 0, vI x1] [] A := rfl
theorem r_X9_whoSits (d : Nat) (a0 : Nat) (x1 : Int) (A : AH) : runF (d + 1) 99 [vR 19 a0 0, vI x1] A = go true 0 (runF d) (runN d) pb_X9_whoSits 1000000 0 [vR 19 a0 0, vI x1] [] A := rfl
theorem r_X9_put (d : Nat) (a0 : Nat) (x1 : Int) (x2 : Int) (x3 : Int) (A : AH) : runF (d + 1) 100 [vR 19 a0 0, vI x1, vI x2, vI x3] A = go true 3 (runF d) (runN d) pb_X9_put 1000000 0 [vR 19 a0 0, vI x1, vI x2, vI x3] [] A := rfl
theorem r_X9_leave (d : Nat) (a0 : Nat) (x1 : Int) (A : AH) : runF (d + 1) 101 [vR 19 a0 0, vI x1] A = go true 3 (runF d) (runN d) pb_X9_leave 1000000 0 [vR 19 a0 0, vI x1, vU] [] A := rfl
theorem r_X9_exchange (d : Nat) (a0 : Nat) (x1 : Int) (x2 : Int) (A : AH) : runF (d + 1) 102 [vR 19 a0 0, vI x1, vI x2] A = go true 3 (runF d) (runN d) pb_X9_exchange 1000000 0 [vR 19 a0 0, vI x1, vI x2, vU, vU] [] A := rfl
theorem r_X9_firstFree (d : Nat) (a0 : Nat) (x1 : Int) (A : AH) : runF (d + 1) 103 [vR 19 a0 0, vI x1] A = go true 0 (runF d) (runN d) pb_X9_firstFree 1000000 0 [vR 19 a0 0, vI x1, vU] [] A := rfl
theorem r_X9_hiredOf (d : Nat) (a0 : Nat) (a1 : Nat) (A : AH) : runF (d + 1) 104 [vR 19 a0 0, vR 13 a1 0] A = go true 0 (runF d) (runN d) pb_X9_hiredOf 1000000 0 [vR 19 a0 0, vR 13 a1 0, vU, vU] [] A := rfl
theorem r_X9_keepCough (d : Nat) (a0 : Nat) (x1 : Int) (x2 : Int) (A : AH) : runF (d + 1) 105 [vR 19 a0 0, vI x1, vI x2] A = go true 3 (runF d) (runN d) pb_X9_keepCough 1000000 0 [vR 19 a0 0, vI x1, vI x2] [] A := rfl
theorem r_X9_toldCoughs (d : Nat) (a0 : Nat) (A : AH) : runF (d + 1) 106 [vR 19 a0 0] A = go true 0 (runF d) (runN d) pb_X9_toldCoughs 1000000 0 [vR 19 a0 0] [] A := rfl
theorem r_X9_toldOf (d : Nat) (a0 : Nat) (x1 : Int) (x2 : Int) (A : AH) : runF (d + 1) 107 [vR 19 a0 0, vI x1, vI x2] A = go true 0 (runF d) (runN d) pb_X9_toldOf 1000000 0 [vR 19 a0 0, vI x1, vI x2, vU, vU] [] A := rfl
theorem r_X11_feed (d : Nat) (x1 : Int) (x2 : Int) (x3 : Int) (x4 : Int) (x5 : Int) (A : AH) : runF (d + 1) 109 [vR 20 40 0, vI x1, vI x2, vI x3, vI x4, vI x5] A = go true 0 (runF d) (runN d) pb_X11_feed 1000000 0 [vR 20 40 0, vI x1, vI x2, vI x3, vI x4, vI x5] [] A := rfl
theorem r_X11_end (d : Nat) (x1 : Int) (A : AH) : runF (d + 1) 110 [vR 20 40 0, vI x1] A = go true 2 (runF d) (runN d) pb_X11_end 1000000 0 [vR 20 40 0, vI x1] [] A := rfl
theorem r_X11_hall (d : Nat)  (A : AH) : runF (d + 1) 111 [vR 20 40 0] A = go true 0 (runF d) (runN d) pb_X11_hall 1000000 0 [vR 20 40 0, vU] [] A := rfl
theorem r_X11_fault (d : Nat) (x1 : Int) (A : AH) : runF (d + 1) 112 [vR 20 40 0, vI x1] A = go true 0 (runF d) (runN d) pb_X11_fault 1000000 0 [vR 20 40 0, vI x1] [] A := rfl
theorem r_X11_has (d : Nat) (x1 : Int) (A : AH) : runF (d + 1) 113 [vR 20 40 0, vI x1] A = go true 0 (runF d) (runN d) pb_X11_has 1000000 0 [vR 20 40 0, vI x1] [] A := rfl
theorem r_X11_scale (d : Nat)  (A : AH) : runF (d + 1) 114 [vR 20 40 0] A = go true 0 (runF d) (runN d) pb_X11_scale 1000000 0 [vR 20 40 0] [] A := rfl
theorem r_X11_letter (d : Nat) (x1 : Int) (x2 : Int) (x3 : Int) (A : AH) : runF (d + 1) 115 [vR 20 40 0, vI x1, vI x2, vI x3] A = go true 0 (runF d) (runN d) pb_X11_letter 1000000 0 [vR 20 40 0, vI x1, vI x2, vI x3] [] A := rfl
theorem r_X11_sits (d : Nat) (x1 : Int) (x2 : Int) (A : AH) : runF (d + 1) 116 [vR 20 40 0, vI x1, vI x2] A = go true 0 (runF d) (runN d) pb_X11_sits 1000000 0 [vR 20 40 0, vI x1, vI x2] [] A := rfl
theorem r_X11_seat (d : Nat) (x1 : Int) (A : AH) : runF (d + 1) 117 [vR 20 40 0, vI x1] A = go true 0 (runF d) (runN d) pb_X11_seat 1000000 0 [vR 20 40 0, vI x1] [] A := rfl
theorem r_X11_mute (d : Nat) (x1 : Int) (x2 : Int) (A : AH) : runF (d + 1) 118 [vR 20 40 0, vI x1, vI x2] A = go true 0 (runF d) (runN d) pb_X11_mute 1000000 0 [vR 20 40 0, vI x1, vI x2, vU] [] A := rfl
theorem r_X11_noise (d : Nat) (x1 : Int) (x2 : Int) (A : AH) : runF (d + 1) 119 [vR 20 40 0, vI x1, vI x2] A = go true 0 (runF d) (runN d) pb_X11_noise 1000000 0 [vR 20 40 0, vI x1, vI x2] [] A := rfl
theorem r_X11_kept (d : Nat) (x1 : Int) (x2 : Int) (A : AH) : runF (d + 1) 120 [vR 20 40 0, vI x1, vI x2] A = go true 0 (runF d) (runN d) pb_X11_kept 1000000 0 [vR 20 40 0, vI x1, vI x2] [] A := rfl
theorem r_X11_mean (d : Nat) (x1 : Int) (A : AH) : runF (d + 1) 121 [vR 20 40 0, vI x1] A = go true 1 (runF d) (runN d) pb_X11_mean 1000000 0 [vR 20 40 0, vI x1] [] A := rfl
theorem r_X11_odds (d : Nat) (x1 : Int) (A : AH) : runF (d + 1) 122 [vR 20 40 0, vI x1] A = go true 0 (runF d) (runN d) pb_X11_odds 1000000 0 [vR 20 40 0, vI x1] [] A := rfl
theorem r_X11_hire (d : Nat) (x1 : Int) (x2 : Int) (x3 : Int) (x4 : Int) (A : AH) : runF (d + 1) 123 [vR 20 40 0, vI x1, vI x2, vI x3, vI x4] A = go true 0 (runF d) (runN d) pb_X11_hire 1000000 0 [vR 20 40 0, vI x1, vI x2, vI x3, vI x4, vU] [] A := rfl
theorem r_X11_change (d : Nat) (x1 : Int) (x2 : Int) (A : AH) : runF (d + 1) 124 [vR 20 40 0, vI x1, vI x2] A = go true 0 (runF d) (runN d) pb_X11_change 1000000 0 [vR 20 40 0, vI x1, vI x2, vU] [] A := rfl
theorem r_X11_points (d : Nat) (x1 : Int) (x2 : Int) (A : AH) : runF (d + 1) 125 [vR 20 40 0, vI x1, vI x2] A = go true 1 (runF d) (runN d) pb_X11_points 1000000 0 [vR 20 40 0, vI x1, vI x2] [] A := rfl
theorem r_X11_fell (d : Nat) (x1 : Int) (x2 : Int) (A : AH) : runF (d + 1) 126 [vR 20 40 0, vI x1, vI x2] A = go true 0 (runF d) (runN d) pb_X11_fell 1000000 0 [vR 20 40 0, vI x1, vI x2] [] A := rfl
theorem r_X11_asked (d : Nat) (x1 : Int) (x2 : Int) (A : AH) : runF (d + 1) 127 [vR 20 40 0, vI x1, vI x2] A = go true 0 (runF d) (runN d) pb_X11_asked 1000000 0 [vR 20 40 0, vI x1, vI x2] [] A := rfl
theorem r_X11_loudest (d : Nat) (x1 : Int) (A : AH) : runF (d + 1) 128 [vR 20 40 0, vI x1] A = go true 0 (runF d) (runN d) pb_X11_loudest 1000000 0 [vR 20 40 0, vI x1] [] A := rfl
theorem r_X11_minutes (d : Nat) (x1 : Int) (A : AH) : runF (d + 1) 129 [vR 20 40 0, vI x1] A = go true 0 (runF d) (runN d) pb_X11_minutes 1000000 0 [vR 20 40 0, vI x1, vU, vU] [] A := rfl
theorem r_X11_point (d : Nat) (x1 : Int) (A : AH) : runF (d + 1) 130 [vR 20 40 0, vI x1] A = go true 2 (runF d) (runN d) pb_X11_point 1000000 0 [vR 20 40 0, vI x1] [] A := rfl
theorem r_X11_move (d : Nat) (x1 : Int) (x2 : Int) (A : AH) : runF (d + 1) 131 [vR 20 40 0, vI x1, vI x2] A = go true 2 (runF d) (runN d) pb_X11_move 1000000 0 [vR 20 40 0, vI x1, vI x2] [] A := rfl
theorem r_X11_take (d : Nat) (x1 : Int) (x2 : Int) (x3 : Int) (A : AH) : runF (d + 1) 132 [vR 20 40 0, vI x1, vI x2, vI x3] A = go true 2 (runF d) (runN d) pb_X11_take 1000000 0 [vR 20 40 0, vI x1, vI x2, vI x3, vU] [] A := rfl
theorem r_X11_dismiss (d : Nat) (x1 : Int) (A : AH) : runF (d + 1) 133 [vR 20 40 0, vI x1] A = go true 2 (runF d) (runN d) pb_X11_dismiss 1000000 0 [vR 20 40 0, vI x1, vU] [] A := rfl
theorem r_X11_undo (d : Nat)  (A : AH) : runF (d + 1) 134 [vR 20 40 0] A = go true 2 (runF d) (runN d) pb_X11_undo 1000000 0 [vR 20 40 0] [] A := rfl
theorem r_X11_seed (d : Nat) (x1 : Int) (A : AH) : runF (d + 1) 135 [vR 20 40 0, vI x1] A = go true 2 (runF d) (runN d) pb_X11_seed 1000000 0 [vR 20 40 0, vI x1] [] A := rfl
theorem r_X11_ask (d : Nat)  (A : AH) : runF (d + 1) 136 [vR 20 40 0] A = go true 1 (runF d) (runN d) pb_X11_ask 1000000 0 [vR 20 40 0, vU] [] A := rfl
theorem r_X11_image (d : Nat)  (A : AH) : runF (d + 1) 137 [vR 20 40 0] A = go true 0 (runF d) (runN d) pb_X11_image 1000000 0 [vR 20 40 0] [] A := rfl
theorem r_X11_octet (d : Nat) (x1 : Int) (A : AH) : runF (d + 1) 138 [vR 20 40 0, vI x1] A = go true 0 (runF d) (runN d) pb_X11_octet 1000000 0 [vR 20 40 0, vI x1] [] A := rfl
theorem r_X11_on (d : Nat)  (A : AH) : runF (d + 1) 139 [vR 20 40 0] A = go true 2 (runF d) (runN d) pb_X11_on 1000000 0 [vR 20 40 0, vU] [] A := rfl
theorem r_X11_status (d : Nat) (x1 : Int) (A : AH) : runF (d + 1) 140 [vR 20 40 0, vI x1] A = go true 0 (runF d) (runN d) pb_X11_status 1000000 0 [vR 20 40 0, vI x1] [] A := rfl
theorem r_X11_refuse (d : Nat) (x1 : Int) (A : AH) : runF (d + 1) 141 [vR 20 40 0, vI x1] A = go true 2 (runF d) (runN d) pb_X11_refuse 1000000 0 [vR 20 40 0, vI x1] [] A := rfl
theorem r_X11_isSide (d : Nat) (x0 : Int) (A : AH) : runF (d + 1) 142 [vI x0] A = go true 2 (runF d) (runN d) pb_X11_isSide 1000000 0 [vI x0] [] A := rfl
theorem r_X11_putBytes (d : Nat) (x1 : Int) (A : AH) : runF (d + 1) 143 [vR 20 40 0, vI x1] A = go true 3 (runF d) (runN d) pb_X11_putBytes 1000000 0 [vR 20 40 0, vI x1, vU] [] A := rfl
theorem r_X11_takeTape (d : Nat)  (A : AH) : runF (d + 1) 144 [vR 20 40 0] A = go true 0 (runF d) (runN d) pb_X11_takeTape 1000000 0 [vR 20 40 0, vU] [] A := rfl
theorem r_X11_drawOf (d : Nat) (x1 : Int) (A : AH) : runF (d + 1) 145 [vR 20 40 0, vI x1] A = go true 0 (runF d) (runN d) pb_X11_drawOf 1000000 0 [vR 20 40 0, vI x1] [] A := rfl
theorem r_X11_passMinute (d : Nat)  (A : AH) : runF (d + 1) 146 [vR 20 40 0] A = go true 0 (runF d) (runN d) pb_X11_passMinute 1000000 0 [vR 20 40 0, vU, vU] [] A := rfl
theorem r_X11_cut (d : Nat) (y0 : Int) (x2 : Int) (x3 : Int) (A : AH) : runF (d + 1) 147 [vL y0, vI x2, vI x3] A = go true 0 (runF d) (runN d) pb_X11_cut 1000000 0 [vL y0, vS, vI x2, vI x3] [] A := rfl
theorem r_X12_isIn (d : Nat) (y0 : Int) (y2 : Int) (y4 : Int) (A : AH) : runF (d + 1) 149 [vL y0, vL y2, vL y4] A = go true 2 (runF d) (runN d) pb_X12_isIn 1000000 0 [vL y0, vS, vL y2, vS, vL y4, vS] [] A := rfl
theorem r_X12_feed (d : Nat) (x1 : Int) (x2 : Int) (x3 : Int) (x4 : Int) (x5 : Int) (A : AH) : runF (d + 1) 150 [vR 21 190 0, vI x1, vI x2, vI x3, vI x4, vI x5] A = go true 0 (runF d) (runN d) pb_X12_feed 1000000 0 [vR 21 190 0, vI x1, vI x2, vI x3, vI x4, vI x5, vU, vU] [] A := rfl
theorem r_X12_end (d : Nat) (x1 : Int) (A : AH) : runF (d + 1) 151 [vR 21 190 0, vI x1] A = go true 2 (runF d) (runN d) pb_X12_end 1000000 0 [vR 21 190 0, vI x1] [] A := rfl
theorem r_X12_fail (d : Nat) (x1 : Int) (x2 : Int) (A : AH) : runF (d + 1) 152 [vR 21 190 0, vI x1, vI x2] A = go true 3 (runF d) (runN d) pb_X12_fail 1000000 0 [vR 21 190 0, vI x1, vI x2] [] A := rfl
theorem r_X12_isLetter (d : Nat) (x0 : Int) (A : AH) : runF (d + 1) 153 [vI x0] A = go true 2 (runF d) (runN d) pb_X12_isLetter 1000000 0 [vI x0] [] A := rfl
theorem r_X12_isDigit (d : Nat) (x0 : Int) (A : AH) : runF (d + 1) 154 [vI x0] A = go true 2 (runF d) (runN d) pb_X12_isDigit 1000000 0 [vI x0] [] A := rfl
theorem r_X12_look (d : Nat)  (A : AH) : runF (d + 1) 155 [vR 21 190 0] A = go true 0 (runF d) (runN d) pb_X12_look 1000000 0 [vR 21 190 0] [] A := rfl
theorem r_X12_isHere (d : Nat) (a1 : Nat) (n1 : Nat) (A : AH) : runF (d + 1) 156 [vR 21 190 0, vR 32 a1 n1] A = go true 2 (runF d) (runN d) pb_X12_isHere 1000000 0 [vR 21 190 0, vR 32 a1 n1, vU, vU] [] A := rfl
theorem r_X12_takes (d : Nat) (a1 : Nat) (n1 : Nat) (A : AH) : runF (d + 1) 157 [vR 21 190 0, vR 32 a1 n1] A = go true 2 (runF d) (runN d) pb_X12_takes 1000000 0 [vR 21 190 0, vR 32 a1 n1] [] A := rfl
theorem r_X12_asks (d : Nat) (a1 : Nat) (n1 : Nat) (A : AH) : runF (d + 1) 158 [vR 21 190 0, vR 32 a1 n1] A = go true 3 (runF d) (runN d) pb_X12_asks 1000000 0 [vR 21 190 0, vR 32 a1 n1] [] A := rfl
theorem r_X12_takesSign (d : Nat) (x1 : Int) (A : AH) : runF (d + 1) 159 [vR 21 190 0, vI x1] A = go true 2 (runF d) (runN d) pb_X12_takesSign 1000000 0 [vR 21 190 0, vI x1] [] A := rfl
theorem r_X12_asksSign (d : Nat) (x1 : Int) (A : AH) : runF (d + 1) 160 [vR 21 190 0, vI x1] A = go true 3 (runF d) (runN d) pb_X12_asksSign 1000000 0 [vR 21 190 0, vI x1] [] A := rfl
theorem r_X12_number (d : Nat) (x1 : Int) (x2 : Int) (A : AH) : runF (d + 1) 161 [vR 21 190 0, vI x1, vI x2] A = go true 0 (runF d) (runN d) pb_X12_number 1000000 0 [vR 21 190 0, vI x1, vI x2, vU, vU] [] A := rfl
theorem r_X12_isOwnHere (d : Nat)  (A : AH) : runF (d + 1) 162 [vR 21 190 0] A = go true 2 (runF d) (runN d) pb_X12_isOwnHere 1000000 0 [vR 21 190 0, vU] [] A := rfl
theorem r_X12_name (d : Nat)  (A : AH) : runF (d + 1) 163 [vR 21 190 0] A = go true 1 (runF d) (runN d) pb_X12_name 1000000 0 [vR 21 190 0, vU, vU] [] A := rfl
theorem r_X12_isFull (d : Nat) (x1 : Int) (x2 : Int) (x3 : Int) (A : AH) : runF (d + 1) 164 [vR 21 190 0, vI x1, vI x2, vI x3] A = go true 2 (runF d) (runN d) pb_X12_isFull 1000000 0 [vR 21 190 0, vI x1, vI x2, vI x3] [] A := rfl
theorem r_X12_nameOf (d : Nat) (x1 : Int) (y2 : Int) (A : AH) : runF (d + 1) 165 [vR 21 190 0, vI x1, vL y2] A = go true 0 (runF d) (runN d) pb_X12_nameOf 1000000 0 [vR 21 190 0, vI x1, vL y2, vS, vU] [] A := rfl
theorem r_X12_newName (d : Nat)  (A : AH) : runF (d + 1) 166 [vR 21 190 0] A = go true 1 (runF d) (runN d) pb_X12_newName 1000000 0 [vR 21 190 0, vU, vU, vU] [] A := rfl
theorem r_X12_hallTold (d : Nat)  (A : AH) : runF (d + 1) 167 [vR 21 190 0] A = go true 3 (runF d) (runN d) pb_X12_hallTold 1000000 0 [vR 21 190 0] [] A := rfl
theorem r_X12_partyHere (d : Nat)  (A : AH) : runF (d + 1) 168 [vR 21 190 0] A = go true 0 (runF d) (runN d) pb_X12_partyHere 1000000 0 [vR 21 190 0] [] A := rfl
theorem r_X12_personTold (d : Nat) (x1 : Int) (A : AH) : runF (d + 1) 169 [vR 21 190 0, vI x1] A = go true 3 (runF d) (runN d) pb_X12_personTold 1000000 0 [vR 21 190 0, vI x1, vU, vU, vU, vU, vU, vU, vU] [] A := rfl
theorem r_X12_sitterHere (d : Nat)  (A : AH) : runF (d + 1) 170 [vR 21 190 0] A = go true 0 (runF d) (runN d) pb_X12_sitterHere 1000000 0 [vR 21 190 0, vU, vU, vU, vU] [] A := rfl
theorem r_X12_hatredTold (d : Nat) (x1 : Int) (A : AH) : runF (d + 1) 171 [vR 21 190 0, vI x1] A = go true 3 (runF d) (runN d) pb_X12_hatredTold 1000000 0 [vR 21 190 0, vI x1, vU, vU] [] A := rfl
theorem r_X12_pointTold (d : Nat) (x1 : Int) (A : AH) : runF (d + 1) 172 [vR 21 190 0, vI x1] A = go true 3 (runF d) (runN d) pb_X12_pointTold 1000000 0 [vR 21 190 0, vI x1, vU, vU, vU, vU] [] A := rfl
theorem r_X12_noiseTold (d : Nat) (x1 : Int) (A : AH) : runF (d + 1) 173 [vR 21 190 0, vI x1] A = go true 3 (runF d) (runN d) pb_X12_noiseTold 1000000 0 [vR 21 190 0, vI x1, vU, vU, vU, vU] [] A := rfl
theorem r_X12_muteTold (d : Nat) (x1 : Int) (A : AH) : runF (d + 1) 174 [vR 21 190 0, vI x1] A = go true 3 (runF d) (runN d) pb_X12_muteTold 1000000 0 [vR 21 190 0, vI x1, vU, vU, vU, vU] [] A := rfl
theorem r_X12_sumIsTold (d : Nat) (x1 : Int) (x2 : Int) (A : AH) : runF (d + 1) 175 [vR 21 190 0, vI x1, vI x2] A = go true 3 (runF d) (runN d) pb_X12_sumIsTold 1000000 0 [vR 21 190 0, vI x1, vI x2] [] A := rfl
theorem r_X12_statementTold (d : Nat)  (A : AH) : runF (d + 1) 176 [vR 21 190 0] A = go true 3 (runF d) (runN d) pb_X12_statementTold 1000000 0 [vR 21 190 0, vU] [] A := rfl
theorem r_X12_hall (d : Nat)  (A : AH) : runF (d + 1) 177 [vR 21 190 0] A = go true 0 (runF d) (runN d) pb_X12_hall 1000000 0 [vR 21 190 0, vU] [] A := rfl
theorem r_X12_stands (d : Nat)  (A : AH) : runF (d + 1) 178 [vR 21 190 0] A = go true 3 (runF d) (runN d) pb_X12_stands 1000000 0 [vR 21 190 0, vU] [] A := rfl
theorem r_X12_code (d : Nat) (x1 : Int) (A : AH) : runF (d + 1) 179 [vR 21 190 0, vI x1] A = go true 3 (runF d) (runN d) pb_X12_code 1000000 0 [vR 21 190 0, vI x1] [] A := rfl
theorem r_X12_opens (d : Nat) (x1 : Int) (x2 : Int) (A : AH) : runF (d + 1) 180 [vR 21 190 0, vI x1, vI x2] A = go true 3 (runF d) (runN d) pb_X12_opens 1000000 0 [vR 21 190 0, vI x1, vI x2] [] A := rfl
theorem r_X12_isOn (d : Nat) (x1 : Int) (A : AH) : runF (d + 1) 181 [vR 21 190 0, vI x1] A = go true 2 (runF d) (runN d) pb_X12_isOn 1000000 0 [vR 21 190 0, vI x1] [] A := rfl
theorem r_X12_drops (d : Nat)  (A : AH) : runF (d + 1) 182 [vR 21 190 0] A = go true 3 (runF d) (runN d) pb_X12_drops 1000000 0 [vR 21 190 0] [] A := rfl
theorem r_X12_isMark (d : Nat) (x1 : Int) (A : AH) : runF (d + 1) 183 [vR 21 190 0, vI x1] A = go true 2 (runF d) (runN d) pb_X12_isMark 1000000 0 [vR 21 190 0, vI x1] [] A := rfl
theorem r_X12_waitsLast (d : Nat)  (A : AH) : runF (d + 1) 184 [vR 21 190 0] A = go true 0 (runF d) (runN d) pb_X12_waitsLast 1000000 0 [vR 21 190 0, vU] [] A := rfl
theorem r_X12_dropsToMark (d : Nat)  (A : AH) : runF (d + 1) 185 [vR 21 190 0] A = go true 3 (runF d) (runN d) pb_X12_dropsToMark 1000000 0 [vR 21 190 0] [] A := rfl
theorem r_X12_onePart (d : Nat)  (A : AH) : runF (d + 1) 186 [vR 21 190 0] A = go true 3 (runF d) (runN d) pb_X12_onePart 1000000 0 [vR 21 190 0, vU, vU, vU, vU] [] A := rfl
theorem r_X12_goesOn (d : Nat)  (A : AH) : runF (d + 1) 187 [vR 21 190 0] A = go true 2 (runF d) (runN d) pb_X12_goesOn 1000000 0 [vR 21 190 0, vU] [] A := rfl
theorem r_X12_sumsTold (d : Nat)  (A : AH) : runF (d + 1) 188 [vR 21 190 0] A = go true 3 (runF d) (runN d) pb_X12_sumsTold 1000000 0 [vR 21 190 0, vU, vU] [] A := rfl
theorem r_X12_fault (d : Nat) (x1 : Int) (A : AH) : runF (d + 1) 189 [vR 21 190 0, vI x1] A = go true 0 (runF d) (runN d) pb_X12_fault 1000000 0 [vR 21 190 0, vI x1] [] A := rfl
theorem r_X12_clip (d : Nat) (y0 : Int) (A : AH) : runF (d + 1) 190 [vL y0] A = go true 1 (runF d) (runN d) pb_X12_clip 1000000 0 [vL y0, vS] [] A := rfl
theorem r_X12_floor (d : Nat) (y0 : Int) (y2 : Int) (A : AH) : runF (d + 1) 191 [vL y0, vL y2] A = go true 1 (runF d) (runN d) pb_X12_floor 1000000 0 [vL y0, vS, vL y2, vS, vU, vU] [] A := rfl
theorem r_X12_puts (d : Nat) (y1 : Int) (A : AH) : runF (d + 1) 192 [vR 21 190 0, vL y1] A = go true 3 (runF d) (runN d) pb_X12_puts 1000000 0 [vR 21 190 0, vL y1, vS] [] A := rfl
theorem r_X12_joins (d : Nat) (x1 : Int) (A : AH) : runF (d + 1) 193 [vR 21 190 0, vI x1] A = go true 3 (runF d) (runN d) pb_X12_joins 1000000 0 [vR 21 190 0, vI x1, vU, vU, vU, vU] [] A := rfl
theorem r_X12_seatMany (d : Nat)  (A : AH) : runF (d + 1) 194 [vR 21 190 0] A = go true 0 (runF d) (runN d) pb_X12_seatMany 1000000 0 [vR 21 190 0] [] A := rfl
theorem r_X12_peopleMany (d : Nat)  (A : AH) : runF (d + 1) 195 [vR 21 190 0] A = go true 0 (runF d) (runN d) pb_X12_peopleMany 1000000 0 [vR 21 190 0] [] A := rfl
theorem r_X12_muteMany (d : Nat)  (A : AH) : runF (d + 1) 196 [vR 21 190 0] A = go true 0 (runF d) (runN d) pb_X12_muteMany 1000000 0 [vR 21 190 0] [] A := rfl
theorem r_X12_pointMany (d : Nat)  (A : AH) : runF (d + 1) 197 [vR 21 190 0] A = go true 0 (runF d) (runN d) pb_X12_pointMany 1000000 0 [vR 21 190 0] [] A := rfl
theorem r_X12_isSeat (d : Nat) (x1 : Int) (A : AH) : runF (d + 1) 198 [vR 21 190 0, vI x1] A = go true 2 (runF d) (runN d) pb_X12_isSeat 1000000 0 [vR 21 190 0, vI x1] [] A := rfl
theorem r_X12_seatOf (d : Nat) (x1 : Int) (A : AH) : runF (d + 1) 199 [vR 21 190 0, vI x1] A = go true 0 (runF d) (runN d) pb_X12_seatOf 1000000 0 [vR 21 190 0, vI x1] [] A := rfl
theorem r_X12_doesSit (d : Nat) (x1 : Int) (A : AH) : runF (d + 1) 200 [vR 21 190 0, vI x1] A = go true 2 (runF d) (runN d) pb_X12_doesSit 1000000 0 [vR 21 190 0, vI x1] [] A := rfl
theorem r_X12_sitterAt (d : Nat) (x1 : Int) (A : AH) : runF (d + 1) 201 [vR 21 190 0, vI x1] A = go true 0 (runF d) (runN d) pb_X12_sitterAt 1000000 0 [vR 21 190 0, vI x1, vU] [] A := rfl
theorem r_X12_isMute (d : Nat) (x1 : Int) (A : AH) : runF (d + 1) 202 [vR 21 190 0, vI x1] A = go true 2 (runF d) (runN d) pb_X12_isMute 1000000 0 [vR 21 190 0, vI x1] [] A := rfl
theorem r_X12_keepsOf (d : Nat) (x1 : Int) (A : AH) : runF (d + 1) 203 [vR 21 190 0, vI x1] A = go true 0 (runF d) (runN d) pb_X12_keepsOf 1000000 0 [vR 21 190 0, vI x1] [] A := rfl
theorem r_X12_itchesOf (d : Nat) (x1 : Int) (A : AH) : runF (d + 1) 204 [vR 21 190 0, vI x1] A = go true 0 (runF d) (runN d) pb_X12_itchesOf 1000000 0 [vR 21 190 0, vI x1] [] A := rfl
theorem r_X12_partyOf (d : Nat) (x1 : Int) (A : AH) : runF (d + 1) 205 [vR 21 190 0, vI x1] A = go true 0 (runF d) (runN d) pb_X12_partyOf 1000000 0 [vR 21 190 0, vI x1] [] A := rfl
theorem r_X12_isBeside (d : Nat) (x1 : Int) (x2 : Int) (A : AH) : runF (d + 1) 206 [vR 21 190 0, vI x1, vI x2] A = go true 2 (runF d) (runN d) pb_X12_isBeside 1000000 0 [vR 21 190 0, vI x1, vI x2] [] A := rfl
theorem r_X12_nearOf (d : Nat) (x1 : Int) (A : AH) : runF (d + 1) 207 [vR 21 190 0, vI x1] A = go true 0 (runF d) (runN d) pb_X12_nearOf 1000000 0 [vR 21 190 0, vI x1, vU, vU] [] A := rfl
theorem r_X12_hatedOf (d : Nat) (x1 : Int) (A : AH) : runF (d + 1) 208 [vR 21 190 0, vI x1] A = go true 0 (runF d) (runN d) pb_X12_hatedOf 1000000 0 [vR 21 190 0, vI x1, vU, vU] [] A := rfl
theorem r_X12_askedOf (d : Nat) (x1 : Int) (A : AH) : runF (d + 1) 209 [vR 21 190 0, vI x1] A = go true 0 (runF d) (runN d) pb_X12_askedOf 1000000 0 [vR 21 190 0, vI x1, vU] [] A := rfl
theorem r_X12_noiseAt (d : Nat) (x1 : Int) (x2 : Int) (A : AH) : runF (d + 1) 210 [vR 21 190 0, vI x1, vI x2] A = go true 0 (runF d) (runN d) pb_X12_noiseAt 1000000 0 [vR 21 190 0, vI x1, vI x2, vU, vU, vU, vU] [] A := rfl
theorem r_X12_told (d : Nat) (x1 : Int) (x2 : Int) (A : AH) : runF (d + 1) 211 [vR 21 190 0, vI x1, vI x2] A = go true 0 (runF d) (runN d) pb_X12_told 1000000 0 [vR 21 190 0, vI x1, vI x2, vU, vU] [] A := rfl
theorem r_X12_weightOf (d : Nat) (x1 : Int) (A : AH) : runF (d + 1) 212 [vR 21 190 0, vI x1] A = go true 0 (runF d) (runN d) pb_X12_weightOf 1000000 0 [vR 21 190 0, vI x1] [] A := rfl
theorem r_X12_coughOf (d : Nat) (x1 : Int) (A : AH) : runF (d + 1) 213 [vR 21 190 0, vI x1] A = go true 0 (runF d) (runN d) pb_X12_coughOf 1000000 0 [vR 21 190 0, vI x1] [] A := rfl
theorem r_X12_signOf (d : Nat) (x1 : Int) (A : AH) : runF (d + 1) 214 [vR 21 190 0, vI x1] A = go true 0 (runF d) (runN d) pb_X12_signOf 1000000 0 [vR 21 190 0, vI x1, vU] [] A := rfl
theorem r_X12_moves (d : Nat) (x1 : Int) (x2 : Int) (A : AH) : runF (d + 1) 215 [vR 21 190 0, vI x1, vI x2] A = go true 0 (runF d) (runN d) pb_X12_moves 1000000 0 [vR 21 190 0, vI x1, vI x2] [] A := rfl
theorem r_X12_hiredMany (d : Nat)  (A : AH) : runF (d + 1) 216 [vR 21 190 0] A = go true 0 (runF d) (runN d) pb_X12_hiredMany 1000000 0 [vR 21 190 0, vU, vU] [] A := rfl
theorem r_X12_has (d : Nat) (x1 : Int) (A : AH) : runF (d + 1) 217 [vR 21 190 0, vI x1] A = go true 0 (runF d) (runN d) pb_X12_has 1000000 0 [vR 21 190 0, vI x1] [] A := rfl
theorem r_X12_scale (d : Nat)  (A : AH) : runF (d + 1) 218 [vR 21 190 0] A = go true 0 (runF d) (runN d) pb_X12_scale 1000000 0 [vR 21 190 0] [] A := rfl
theorem r_X12_letter (d : Nat) (x1 : Int) (x2 : Int) (x3 : Int) (A : AH) : runF (d + 1) 219 [vR 21 190 0, vI x1, vI x2, vI x3] A = go true 0 (runF d) (runN d) pb_X12_letter 1000000 0 [vR 21 190 0, vI x1, vI x2, vI x3, vU, vU, vU, vU, vU] [] A := rfl
theorem r_X12_sits (d : Nat) (x1 : Int) (x2 : Int) (A : AH) : runF (d + 1) 220 [vR 21 190 0, vI x1, vI x2] A = go true 0 (runF d) (runN d) pb_X12_sits 1000000 0 [vR 21 190 0, vI x1, vI x2] [] A := rfl
theorem r_X12_seat (d : Nat) (x1 : Int) (A : AH) : runF (d + 1) 221 [vR 21 190 0, vI x1] A = go true 0 (runF d) (runN d) pb_X12_seat 1000000 0 [vR 21 190 0, vI x1] [] A := rfl
theorem r_X12_mute (d : Nat) (x1 : Int) (x2 : Int) (A : AH) : runF (d + 1) 222 [vR 21 190 0, vI x1, vI x2] A = go true 0 (runF d) (runN d) pb_X12_mute 1000000 0 [vR 21 190 0, vI x1, vI x2] [] A := rfl
theorem r_X12_noise (d : Nat) (x1 : Int) (x2 : Int) (A : AH) : runF (d + 1) 223 [vR 21 190 0, vI x1, vI x2] A = go true 0 (runF d) (runN d) pb_X12_noise 1000000 0 [vR 21 190 0, vI x1, vI x2] [] A := rfl
theorem r_X12_kept (d : Nat) (x1 : Int) (x2 : Int) (A : AH) : runF (d + 1) 224 [vR 21 190 0, vI x1, vI x2] A = go true 0 (runF d) (runN d) pb_X12_kept 1000000 0 [vR 21 190 0, vI x1, vI x2] [] A := rfl
theorem r_X12_putsAside (d : Nat)  (A : AH) : runF (d + 1) 225 [vR 21 190 0] A = go true 3 (runF d) (runN d) pb_X12_putsAside 1000000 0 [vR 21 190 0, vU] [] A := rfl
theorem r_X12_takesBack (d : Nat)  (A : AH) : runF (d + 1) 226 [vR 21 190 0] A = go true 3 (runF d) (runN d) pb_X12_takesBack 1000000 0 [vR 21 190 0, vU] [] A := rfl
theorem r_X12_meanMove (d : Nat)  (A : AH) : runF (d + 1) 227 [vR 21 190 0] A = go true 1 (runF d) (runN d) pb_X12_meanMove 1000000 0 [vR 21 190 0, vU, vU, vU] [] A := rfl
theorem r_X12_meanOf (d : Nat) (x1 : Int) (A : AH) : runF (d + 1) 228 [vR 21 190 0, vI x1] A = go true 1 (runF d) (runN d) pb_X12_meanOf 1000000 0 [vR 21 190 0, vI x1, vU, vU, vU, vU] [] A := rfl
theorem r_X12_isAhead (d : Nat) (x1 : Int) (x2 : Int) (x3 : Int) (A : AH) : runF (d + 1) 229 [vR 21 190 0, vI x1, vI x2, vI x3] A = go true 2 (runF d) (runN d) pb_X12_isAhead 1000000 0 [vR 21 190 0, vI x1, vI x2, vI x3] [] A := rfl
theorem r_X12_mean (d : Nat) (x1 : Int) (A : AH) : runF (d + 1) 230 [vR 21 190 0, vI x1] A = go true 1 (runF d) (runN d) pb_X12_mean 1000000 0 [vR 21 190 0, vI x1] [] A := rfl
theorem r_X12_laysItchers (d : Nat)  (A : AH) : runF (d + 1) 231 [vR 21 190 0] A = go true 3 (runF d) (runN d) pb_X12_laysItchers 1000000 0 [vR 21 190 0, vU] [] A := rfl
theorem r_X12_movedBy (d : Nat) (x1 : Int) (A : AH) : runF (d + 1) 232 [vR 21 190 0, vI x1] A = go true 0 (runF d) (runN d) pb_X12_movedBy 1000000 0 [vR 21 190 0, vI x1, vU, vU] [] A := rfl
theorem r_X12_waysOf (d : Nat) (x1 : Int) (A : AH) : runF (d + 1) 233 [vR 21 190 0, vI x1] A = go true 1 (runF d) (runN d) pb_X12_waysOf 1000000 0 [vR 21 190 0, vI x1, vU, vU, vU] [] A := rfl
theorem r_X12_odds (d : Nat) (x1 : Int) (A : AH) : runF (d + 1) 234 [vR 21 190 0, vI x1] A = go true 0 (runF d) (runN d) pb_X12_odds 1000000 0 [vR 21 190 0, vI x1, vU, vU, vU, vU] [] A := rfl
theorem r_X12_freeSeat (d : Nat)  (A : AH) : runF (d + 1) 235 [vR 21 190 0] A = go true 0 (runF d) (runN d) pb_X12_freeSeat 1000000 0 [vR 21 190 0, vU] [] A := rfl
theorem r_X12_areSeated (d : Nat) (x1 : Int) (x2 : Int) (A : AH) : runF (d + 1) 236 [vR 21 190 0, vI x1, vI x2] A = go true 2 (runF d) (runN d) pb_X12_areSeated 1000000 0 [vR 21 190 0, vI x1, vI x2, vU, vU] [] A := rfl
theorem r_X12_bits (d : Nat) (x0 : Int) (A : AH) : runF (d + 1) 237 [vI x0] A = go true 0 (runF d) (runN d) pb_X12_bits 1000000 0 [vI x0, vU, vU] [] A := rfl
theorem r_X12_costsOf (d : Nat) (x1 : Int) (A : AH) : runF (d + 1) 238 [vR 21 190 0, vI x1] A = go true 0 (runF d) (runN d) pb_X12_costsOf 1000000 0 [vR 21 190 0, vI x1, vU, vU] [] A := rfl
theorem r_X12_isEnough (d : Nat) (x1 : Int) (x2 : Int) (x3 : Int) (x4 : Int) (A : AH) : runF (d + 1) 239 [vR 21 190 0, vI x1, vI x2, vI x3, vI x4] A = go true 2 (runF d) (runN d) pb_X12_isEnough 1000000 0 [vR 21 190 0, vI x1, vI x2, vI x3, vI x4, vU] [] A := rfl
theorem r_X12_hire (d : Nat) (x1 : Int) (x2 : Int) (x3 : Int) (x4 : Int) (A : AH) : runF (d + 1) 240 [vR 21 190 0, vI x1, vI x2, vI x3, vI x4] A = go true 0 (runF d) (runN d) pb_X12_hire 1000000 0 [vR 21 190 0, vI x1, vI x2, vI x3, vI x4, vU, vU, vU] [] A := rfl
theorem r_X12_changes (d : Nat) (x1 : Int) (x2 : Int) (A : AH) : runF (d + 1) 241 [vR 21 190 0, vI x1, vI x2] A = go true 3 (runF d) (runN d) pb_X12_changes 1000000 0 [vR 21 190 0, vI x1, vI x2, vU] [] A := rfl
theorem r_X12_change (d : Nat) (x1 : Int) (x2 : Int) (A : AH) : runF (d + 1) 242 [vR 21 190 0, vI x1, vI x2] A = go true 0 (runF d) (runN d) pb_X12_change 1000000 0 [vR 21 190 0, vI x1, vI x2, vU, vU, vU, vU, vU, vU, vU, vU, vU] [] A := rfl
theorem r_X12_laysPointMoves (d : Nat) (x1 : Int) (A : AH) : runF (d + 1) 243 [vR 21 190 0, vI x1] A = go true 3 (runF d) (runN d) pb_X12_laysPointMoves 1000000 0 [vR 21 190 0, vI x1, vU, vU, vU, vU] [] A := rfl
theorem r_X12_bestPoint (d : Nat) (x1 : Int) (A : AH) : runF (d + 1) 244 [vR 21 190 0, vI x1] A = go true 0 (runF d) (runN d) pb_X12_bestPoint 1000000 0 [vR 21 190 0, vI x1, vU, vU, vU, vU] [] A := rfl
theorem r_X12_points (d : Nat) (x1 : Int) (x2 : Int) (A : AH) : runF (d + 1) 245 [vR 21 190 0, vI x1, vI x2] A = go true 1 (runF d) (runN d) pb_X12_points 1000000 0 [vR 21 190 0, vI x1, vI x2, vU, vU, vU] [] A := rfl
theorem r_X12_peopleIn (d : Nat) (x1 : Int) (A : AH) : runF (d + 1) 246 [vR 21 190 0, vI x1] A = go true 0 (runF d) (runN d) pb_X12_peopleIn 1000000 0 [vR 21 190 0, vI x1, vU, vU] [] A := rfl
theorem r_X12_fell (d : Nat) (x1 : Int) (x2 : Int) (A : AH) : runF (d + 1) 247 [vR 21 190 0, vI x1, vI x2] A = go true 0 (runF d) (runN d) pb_X12_fell 1000000 0 [vR 21 190 0, vI x1, vI x2, vU, vU, vU, vU] [] A := rfl
theorem r_X12_asked (d : Nat) (x1 : Int) (x2 : Int) (A : AH) : runF (d + 1) 248 [vR 21 190 0, vI x1, vI x2] A = go true 0 (runF d) (runN d) pb_X12_asked 1000000 0 [vR 21 190 0, vI x1, vI x2, vU, vU, vU, vU, vU] [] A := rfl
theorem r_X12_loudest (d : Nat) (x1 : Int) (A : AH) : runF (d + 1) 249 [vR 21 190 0, vI x1] A = go true 0 (runF d) (runN d) pb_X12_loudest 1000000 0 [vR 21 190 0, vI x1, vU, vU, vU, vU, vU, vU, vU, vU] [] A := rfl
theorem r_X12_keeps (d : Nat)  (A : AH) : runF (d + 1) 250 [vR 21 190 0] A = go true 3 (runF d) (runN d) pb_X12_keeps 1000000 0 [vR 21 190 0, vU] [] A := rfl
theorem r_X12_undo (d : Nat)  (A : AH) : runF (d + 1) 251 [vR 21 190 0] A = go true 2 (runF d) (runN d) pb_X12_undo 1000000 0 [vR 21 190 0, vU] [] A := rfl
theorem r_X12_seed (d : Nat) (x1 : Int) (A : AH) : runF (d + 1) 252 [vR 21 190 0, vI x1] A = go true 2 (runF d) (runN d) pb_X12_seed 1000000 0 [vR 21 190 0, vI x1] [] A := rfl
theorem r_X12_drawOf (d : Nat) (x1 : Int) (A : AH) : runF (d + 1) 253 [vR 21 190 0, vI x1] A = go true 0 (runF d) (runN d) pb_X12_drawOf 1000000 0 [vR 21 190 0, vI x1] [] A := rfl
theorem r_X12_isKept (d : Nat) (x1 : Int) (x2 : Int) (A : AH) : runF (d + 1) 254 [vR 21 190 0, vI x1, vI x2] A = go true 3 (runF d) (runN d) pb_X12_isKept 1000000 0 [vR 21 190 0, vI x1, vI x2, vU] [] A := rfl
theorem r_X12_minuteGoes (d : Nat)  (A : AH) : runF (d + 1) 255 [vR 21 190 0] A = go true 0 (runF d) (runN d) pb_X12_minuteGoes 1000000 0 [vR 21 190 0, vU, vU, vU, vU] [] A := rfl
theorem r_X12_minutes (d : Nat) (x1 : Int) (A : AH) : runF (d + 1) 256 [vR 21 190 0, vI x1] A = go true 0 (runF d) (runN d) pb_X12_minutes 1000000 0 [vR 21 190 0, vI x1, vU, vU] [] A := rfl
theorem r_X12_refuses (d : Nat)  (A : AH) : runF (d + 1) 257 [vR 21 190 0] A = go true 2 (runF d) (runN d) pb_X12_refuses 1000000 0 [vR 21 190 0] [] A := rfl
theorem r_X12_point (d : Nat) (x1 : Int) (A : AH) : runF (d + 1) 258 [vR 21 190 0, vI x1] A = go true 2 (runF d) (runN d) pb_X12_point 1000000 0 [vR 21 190 0, vI x1] [] A := rfl
theorem r_X12_move (d : Nat) (x1 : Int) (x2 : Int) (A : AH) : runF (d + 1) 259 [vR 21 190 0, vI x1, vI x2] A = go true 2 (runF d) (runN d) pb_X12_move 1000000 0 [vR 21 190 0, vI x1, vI x2, vU] [] A := rfl
theorem r_X12_take (d : Nat) (x1 : Int) (x2 : Int) (x3 : Int) (A : AH) : runF (d + 1) 260 [vR 21 190 0, vI x1, vI x2, vI x3] A = go true 2 (runF d) (runN d) pb_X12_take 1000000 0 [vR 21 190 0, vI x1, vI x2, vI x3] [] A := rfl
theorem r_X12_dismiss (d : Nat) (x1 : Int) (A : AH) : runF (d + 1) 261 [vR 21 190 0, vI x1] A = go true 2 (runF d) (runN d) pb_X12_dismiss 1000000 0 [vR 21 190 0, vI x1] [] A := rfl
theorem r_X12_qCode (d : Nat) (x1 : Int) (A : AH) : runF (d + 1) 262 [vR 21 190 0, vI x1] A = go true 3 (runF d) (runN d) pb_X12_qCode 1000000 0 [vR 21 190 0, vI x1] [] A := rfl
theorem r_X12_qOpens (d : Nat) (x1 : Int) (x2 : Int) (A : AH) : runF (d + 1) 263 [vR 21 190 0, vI x1, vI x2] A = go true 3 (runF d) (runN d) pb_X12_qOpens 1000000 0 [vR 21 190 0, vI x1, vI x2] [] A := rfl
theorem r_X12_qIsOn (d : Nat) (x1 : Int) (A : AH) : runF (d + 1) 264 [vR 21 190 0, vI x1] A = go true 2 (runF d) (runN d) pb_X12_qIsOn 1000000 0 [vR 21 190 0, vI x1] [] A := rfl
theorem r_X12_qDrops (d : Nat)  (A : AH) : runF (d + 1) 265 [vR 21 190 0] A = go true 3 (runF d) (runN d) pb_X12_qDrops 1000000 0 [vR 21 190 0] [] A := rfl
theorem r_X12_qIsBracket (d : Nat) (x0 : Int) (A : AH) : runF (d + 1) 266 [vI x0] A = go true 2 (runF d) (runN d) pb_X12_qIsBracket 1000000 0 [vI x0] [] A := rfl
theorem r_X12_qBracket (d : Nat)  (A : AH) : runF (d + 1) 267 [vR 21 190 0] A = go true 0 (runF d) (runN d) pb_X12_qBracket 1000000 0 [vR 21 190 0, vU] [] A := rfl
theorem r_X12_qDropsToBracket (d : Nat)  (A : AH) : runF (d + 1) 268 [vR 21 190 0] A = go true 3 (runF d) (runN d) pb_X12_qDropsToBracket 1000000 0 [vR 21 190 0] [] A := rfl
theorem r_X12_qWordHere (d : Nat)  (A : AH) : runF (d + 1) 269 [vR 21 190 0] A = go true 0 (runF d) (runN d) pb_X12_qWordHere 1000000 0 [vR 21 190 0] [] A := rfl
theorem r_X12_qWordOf (d : Nat) (x1 : Int) (x2 : Int) (A : AH) : runF (d + 1) 270 [vR 21 190 0, vI x1, vI x2] A = go true 0 (runF d) (runN d) pb_X12_qWordOf 1000000 0 [vR 21 190 0, vI x1, vI x2, vU] [] A := rfl
theorem r_X12_qAsksWord (d : Nat) (x1 : Int) (A : AH) : runF (d + 1) 271 [vR 21 190 0, vI x1] A = go true 3 (runF d) (runN d) pb_X12_qAsksWord 1000000 0 [vR 21 190 0, vI x1] [] A := rfl
theorem r_X12_qEndsPart (d : Nat)  (A : AH) : runF (d + 1) 272 [vR 21 190 0] A = go true 3 (runF d) (runN d) pb_X12_qEndsPart 1000000 0 [vR 21 190 0] [] A := rfl
theorem r_X12_qPartTold (d : Nat)  (A : AH) : runF (d + 1) 273 [vR 21 190 0] A = go true 3 (runF d) (runN d) pb_X12_qPartTold 1000000 0 [vR 21 190 0, vU, vU, vU, vU, vU] [] A := rfl
theorem r_X12_qGoesOn (d : Nat)  (A : AH) : runF (d + 1) 274 [vR 21 190 0] A = go true 2 (runF d) (runN d) pb_X12_qGoesOn 1000000 0 [vR 21 190 0, vU] [] A := rfl
theorem r_X12_qSums (d : Nat)  (A : AH) : runF (d + 1) 275 [vR 21 190 0] A = go true 3 (runF d) (runN d) pb_X12_qSums 1000000 0 [vR 21 190 0, vU, vU] [] A := rfl
theorem r_X12_qFact (d : Nat)  (A : AH) : runF (d + 1) 276 [vR 21 190 0] A = go true 3 (runF d) (runN d) pb_X12_qFact 1000000 0 [vR 21 190 0, vU] [] A := rfl
theorem r_X12_qHasSquare (d : Nat)  (A : AH) : runF (d + 1) 277 [vR 21 190 0] A = go true 2 (runF d) (runN d) pb_X12_qHasSquare 1000000 0 [vR 21 190 0, vU] [] A := rfl
theorem r_X12_qDropsNots (d : Nat)  (A : AH) : runF (d + 1) 278 [vR 21 190 0] A = go true 3 (runF d) (runN d) pb_X12_qDropsNots 1000000 0 [vR 21 190 0] [] A := rfl
theorem r_X12_qTest (d : Nat)  (A : AH) : runF (d + 1) 279 [vR 21 190 0] A = go true 3 (runF d) (runN d) pb_X12_qTest 1000000 0 [vR 21 190 0, vU, vU] [] A := rfl
theorem r_X12_qGoesOnTest (d : Nat)  (A : AH) : runF (d + 1) 280 [vR 21 190 0] A = go true 2 (runF d) (runN d) pb_X12_qGoesOnTest 1000000 0 [vR 21 190 0] [] A := rfl
theorem r_X12_qClip (d : Nat) (y0 : Int) (A : AH) : runF (d + 1) 281 [vL y0] A = go true 1 (runF d) (runN d) pb_X12_qClip 1000000 0 [vL y0, vS] [] A := rfl
theorem r_X12_qFloor (d : Nat) (y0 : Int) (y2 : Int) (A : AH) : runF (d + 1) 282 [vL y0, vL y2] A = go true 1 (runF d) (runN d) pb_X12_qFloor 1000000 0 [vL y0, vS, vL y2, vS, vU, vU] [] A := rfl
theorem r_X12_qPuts (d : Nat) (y1 : Int) (A : AH) : runF (d + 1) 283 [vR 21 190 0, vL y1] A = go true 3 (runF d) (runN d) pb_X12_qPuts 1000000 0 [vR 21 190 0, vL y1, vS] [] A := rfl
theorem r_X12_qJoins (d : Nat) (x1 : Int) (A : AH) : runF (d + 1) 284 [vR 21 190 0, vI x1] A = go true 3 (runF d) (runN d) pb_X12_qJoins 1000000 0 [vR 21 190 0, vI x1, vU, vU, vU, vU] [] A := rfl
theorem r_X12_qPartOf (d : Nat) (x1 : Int) (x2 : Int) (A : AH) : runF (d + 1) 285 [vR 21 190 0, vI x1, vI x2] A = go true 1 (runF d) (runN d) pb_X12_qPartOf 1000000 0 [vR 21 190 0, vI x1, vI x2] [] A := rfl
theorem r_X12_qOf (d : Nat) (x1 : Int) (y2 : Int) (x4 : Int) (A : AH) : runF (d + 1) 286 [vR 21 190 0, vI x1, vL y2, vI x4] A = go true 1 (runF d) (runN d) pb_X12_qOf 1000000 0 [vR 21 190 0, vI x1, vL y2, vS, vI x4] [] A := rfl
theorem r_X12_qTold (d : Nat) (x1 : Int) (A : AH) : runF (d + 1) 287 [vR 21 190 0, vI x1] A = go true 1 (runF d) (runN d) pb_X12_qTold 1000000 0 [vR 21 190 0, vI x1, vU, vU] [] A := rfl
theorem r_X12_qKind (d : Nat)  (A : AH) : runF (d + 1) 288 [vR 21 190 0] A = go true 0 (runF d) (runN d) pb_X12_qKind 1000000 0 [vR 21 190 0, vU] [] A := rfl
theorem r_X12_qTakes (d : Nat) (x1 : Int) (y2 : Int) (x4 : Int) (A : AH) : runF (d + 1) 289 [vR 21 190 0, vI x1, vL y2, vI x4] A = go true 3 (runF d) (runN d) pb_X12_qTakes 1000000 0 [vR 21 190 0, vI x1, vL y2, vS, vI x4, vU] [] A := rfl
theorem r_X12_ask (d : Nat)  (A : AH) : runF (d + 1) 290 [vR 21 190 0] A = go true 1 (runF d) (runN d) pb_X12_ask 1000000 0 [vR 21 190 0, vU, vU] [] A := rfl
theorem r_X12_checked (d : Nat) (a0 : Nat) (n0 : Nat) (x1 : Int) (A : AH) : runF (d + 1) 291 [vR 30 a0 n0, vI x1] A = go true 0 (runF d) (runN d) pb_X12_checked 1000000 0 [vR 30 a0 n0, vI x1, vU, vU] [] A := rfl
theorem r_X12_writes (d : Nat) (x1 : Int) (A : AH) : runF (d + 1) 292 [vR 21 190 0, vI x1] A = go true 3 (runF d) (runN d) pb_X12_writes 1000000 0 [vR 21 190 0, vI x1] [] A := rfl
theorem r_X12_image (d : Nat)  (A : AH) : runF (d + 1) 293 [vR 21 190 0] A = go true 0 (runF d) (runN d) pb_X12_image 1000000 0 [vR 21 190 0, vU, vU] [] A := rfl
theorem r_X12_octet (d : Nat) (x1 : Int) (A : AH) : runF (d + 1) 294 [vR 21 190 0, vI x1] A = go true 0 (runF d) (runN d) pb_X12_octet 1000000 0 [vR 21 190 0, vI x1] [] A := rfl
theorem r_X12_scaleTold (d : Nat)  (A : AH) : runF (d + 1) 295 [vR 21 190 0] A = go true 0 (runF d) (runN d) pb_X12_scaleTold 1000000 0 [vR 21 190 0] [] A := rfl
theorem r_X12_seatTold (d : Nat) (x1 : Int) (A : AH) : runF (d + 1) 296 [vR 21 190 0, vI x1] A = go true 0 (runF d) (runN d) pb_X12_seatTold 1000000 0 [vR 21 190 0, vI x1, vU] [] A := rfl
theorem r_X12_areSeatsTold (d : Nat)  (A : AH) : runF (d + 1) 297 [vR 21 190 0] A = go true 2 (runF d) (runN d) pb_X12_areSeatsTold 1000000 0 [vR 21 190 0, vU, vU, vU] [] A := rfl
theorem r_X12_isTold (d : Nat) (x1 : Int) (A : AH) : runF (d + 1) 298 [vR 21 190 0, vI x1] A = go true 2 (runF d) (runN d) pb_X12_isTold 1000000 0 [vR 21 190 0, vI x1] [] A := rfl
theorem r_X12_on (d : Nat)  (A : AH) : runF (d + 1) 299 [vR 21 190 0] A = go true 2 (runF d) (runN d) pb_X12_on 1000000 0 [vR 21 190 0, vU, vU] [] A := rfl
theorem r_X12_status (d : Nat) (x1 : Int) (A : AH) : runF (d + 1) 300 [vR 21 190 0, vI x1] A = go true 0 (runF d) (runN d) pb_X12_status 1000000 0 [vR 21 190 0, vI x1] [] A := rfl
theorem r_J6_bitCount_0f7a4 (d : Nat) (x0 : Int) (A : AH) : runF (d + 1) 301 [vI x0] A = go true 0 (runF d) (runN d) pb_J6_bitCount_0f7a4 1000000 0 [vI x0] [] A := rfl
theorem r_J9_floorDiv_7cf53 (d : Nat) (x0 : Int) (x1 : Int) (A : AH) : runF (d + 1) 302 [vI x0, vI x1] A = go true 0 (runF d) (runN d) pb_J9_floorDiv_7cf53 1000000 0 [vI x0, vI x1, vU] [] A := rfl
theorem r_J9_abs_0f7a4 (d : Nat) (x0 : Int) (A : AH) : runF (d + 1) 303 [vI x0] A = go true 0 (runF d) (runN d) pb_J9_abs_0f7a4 1000000 0 [vI x0] [] A := rfl
theorem r_J9_max_7cf53 (d : Nat) (x0 : Int) (x1 : Int) (A : AH) : runF (d + 1) 304 [vI x0, vI x1] A = go true 0 (runF d) (runN d) pb_J9_max_7cf53 1000000 0 [vI x0, vI x1] [] A := rfl
theorem r_J9_max_f86c9 (d : Nat) (y0 : Int) (y2 : Int) (A : AH) : runF (d + 1) 305 [vL y0, vL y2] A = go true 1 (runF d) (runN d) pb_J9_max_f86c9 1000000 0 [vL y0, vS, vL y2, vS] [] A := rfl
theorem r_J9_min_7cf53 (d : Nat) (x0 : Int) (x1 : Int) (A : AH) : runF (d + 1) 306 [vI x0, vI x1] A = go true 0 (runF d) (runN d) pb_J9_min_7cf53 1000000 0 [vI x0, vI x1] [] A := rfl
theorem r_J9_min_f86c9 (d : Nat) (y0 : Int) (y2 : Int) (A : AH) : runF (d + 1) 307 [vL y0, vL y2] A = go true 1 (runF d) (runN d) pb_J9_min_f86c9 1000000 0 [vL y0, vS, vL y2, vS] [] A := rfl
theorem r_J7_fill_53178 (d : Nat) (a0 : Nat) (n0 : Nat) (x1 : Int) (A : AH) : runF (d + 1) 308 [vR 30 a0 n0, vI x1] A = go true 3 (runF d) (runN d) pb_J7_fill_53178 1000000 0 [vR 30 a0 n0, vI x1, vU, vU] [] A := rfl
theorem r_J7_copyOf_59c91 (d : Nat) (a0 : Nat) (n0 : Nat) (x1 : Int) (A : AH) : runF (d + 1) 309 [vR 30 a0 n0, vI x1] A = go true 30 (runF d) (runN d) pb_J7_copyOf_59c91 1000000 0 [vR 30 a0 n0, vI x1, vU] [] A := rfl
