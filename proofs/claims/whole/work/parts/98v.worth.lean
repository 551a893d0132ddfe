/-! the text of a hall: the class reads what a minute's silence weighs, what a cough costs -/
set_option maxRecDepth 100000 in
theorem qz_worth_21 (S SN : SX) (n : Nat) (x1 : Int) (u2 : AV) (sn0 : Nat) (A : AH) : go true 2 S SN pb_X4_worth (n + 2) 21 [vR 14 46 0, vI x1, u2] [vR 30 0 sn0] A = go true 2 S SN pb_X4_worth (n + 1) 32 [vR 14 46 0, vI x1, vR 30 0 sn0] [vI 0, vR 14 46 0] A := rfl
set_option maxRecDepth 100000 in
theorem qz_worth_32 (S SN : SX) (n : Nat) (x1 : Int) (n2 : Nat) (sx0 : Int) (A : AH) : go true 2 S SN pb_X4_worth (n + 4) 32 [vR 14 46 0, vI x1, vR 30 0 n2] [vI sx0, vR 14 46 0] A =
    cI (S 57 [vR 14 46 0, vI sx0, vI 1] A) fun r2 A1 =>
    if r2 = 0 then
      some (some (vI 0), A1)
    else
    cV (S 33 [vR 12 44 0, vI 0] A1) fun A2 =>
    cI (S 37 [vR 12 44 0, vI 3, vI 0] A2) fun r4 A3 =>
    if r4 = 0 then
      some (some (vI 0), A3)
    else
    if gr A3 46 3 = 0 then none else
    if (gi A3 (gr A3 46 3) 18) = 0 then
      if (gi A3 44 2) = 0 then
        go true 2 S SN pb_X4_worth (n + 0) 92 [vR 14 46 0, vI x1, vR 30 0 n2] [vI 0, vR 13 (gr A3 46 3) 0] A3
      else
      go true 2 S SN pb_X4_worth (n + 1) 87 [vR 14 46 0, vI x1, vR 30 0 n2] [vR 13 (gr A3 46 3) 0] A3
    else
    go true 2 S SN pb_X4_worth (n + 1) 87 [vR 14 46 0, vI x1, vR 30 0 n2] [vR 13 (gr A3 46 3) 0] A3 := rfl
set_option maxRecDepth 100000 in
theorem qz_worth_87 (S SN : SX) (n : Nat) (x1 : Int) (n2 : Nat) (sa0 : Nat) (A : AH) (hsa0 : sa0 ≠ 0) : go true 2 S SN pb_X4_worth (n + 1) 87 [vR 14 46 0, vI x1, vR 30 0 n2] [vR 13 sa0 0] A = go true 2 S SN pb_X4_worth (n + 0) 92 [vR 14 46 0, vI x1, vR 30 0 n2] [vI 1, vR 13 sa0 0] A := by
  obtain ⟨sa0, rfl⟩ := Nat.exists_eq_succ_of_ne_zero hsa0
  rfl
set_option maxRecDepth 100000 in
theorem qz_worth_92 (S SN : SX) (n : Nat) (x1 : Int) (n2 : Nat) (sx0 : Int) (sa1 : Nat) (A : AH) (hsa1 : sa1 ≠ 0) : go true 2 S SN pb_X4_worth (n + 3) 92 [vR 14 46 0, vI x1, vR 30 0 n2] [vI sx0, vR 13 sa1 0] A =
    if sx0 = 0 ∨ sx0 = 1 then
      if x1 = 0 then
        cR 30 (S 34 [vR 12 44 0] (wi A sa1 18 sx0)) fun p5 l6 A4 =>
        if gr (wi A sa1 18 sx0) 46 3 = 0 then none else
        some (some (vI 1), wr A4 (gr (wi A sa1 18 sx0) 46 3) 17 p5)
      else
      cR 30 (S 34 [vR 12 44 0] (wi A sa1 18 sx0)) fun p2 l3 A1 =>
      if gr (wi A sa1 18 sx0) 46 3 = 0 then none else
      go true 2 S SN pb_X4_worth (n + 2) 113 [vR 14 46 0, vI x1, vR 30 0 n2] [] (wr A1 (gr (wi A sa1 18 sx0) 46 3) 16 p2)
    else none := by
  obtain ⟨sa1, rfl⟩ := Nat.exists_eq_succ_of_ne_zero hsa1
  rfl
set_option maxRecDepth 100000 in
theorem qz_worth_113 (S SN : SX) (n : Nat) (x1 : Int) (n2 : Nat) (A : AH) : go true 2 S SN pb_X4_worth (n + 2) 113 [vR 14 46 0, vI x1, vR 30 0 n2] [] A = some (some (vI 1), A) := rfl
set_option maxRecDepth 100000 in
theorem s_copySteps (d N : Nat) (A : AH) (h4 : gi A 44 4 = N) (hN : N < 1600) (hz : 271 ≤ sz A) : runF (d + 3) 34 [vR 12 44 0] A = some (some (vR 30 (sz A) N), cpa (nw A 20 N) 45 0 (sz A) 0 N) := by
  have hm : runF (d + 1) 306 [vI ((1600 : Nat) : Int), vI (N : Int)] (nw A 20 N) = some (some (vI (N : Int)), nw A 20 N) := by
    rw [r_J9_min_7cf53, q_J9_min_7cf53_0, if_pos (by omega)]
  rw [r_X2_copyOfSteps, q_X2_copyOfSteps_0, h4, r_J7_copyOf_59c91, q_J7_copyOf_59c91_0 (ha0 := by decide), if_neg (by omega), if_pos (by omega), Int.toNat_natCast, hm, cI_v, if_neg (by omega), if_pos (by omega), Int.toNat_natCast, cR_v]
def bgA (ask : Bool) (A : AH) : AH := wi (wi (wi A 44 1 (bI ask)) 44 2 0) 44 4 0
set_option maxRecDepth 100000 in
theorem s_begSum (d : Nat) (ask : Bool) (A : AH) : runF (d + 49) 33 [vR 12 44 0, vI (bI ask)] A = some (none, bgA ask A) := by
  rw [r_X2_begin, q_X2_begin_0, if_pos (by cases ask <;> simp [bI]), q_X2_begin_10]
  rfl
set_option maxRecDepth 100000 in
theorem s_readSum (d : Nat) {T : Nat → Int} {L p : Nat} {t : Bool} (tx : TX T L) (ask : Bool) (A : AH) (r : RdS A T L p t) : (∀ k s, sumG T L (partG T L ask 6) p t = .error (k, s) → ∃ B, runF (d + 49) 37 [vR 12 44 0, vI 3, vI 0] (bgA ask A) = some (some (vI 0), B) ∧ gi B 42 11 = k ∧ gi B 42 12 = s ∧ (∀ a j, ¬ (a = 42 ∧ 2 ≤ j ∧ j ≤ 12) → a ≠ 44 → a ≠ 45 → gi B a j = gi A a j) ∧ (∀ a j, ¬ (a = 42 ∧ j = 7) → gr B a j = gr A a j) ∧ B.2.2 = A.2.2) ∧ (∀ cs p' t', sumG T L (partG T L ask 6) p t = .ok (cs, p', t') → ∃ B, runF (d + 49) 37 [vR 12 44 0, vI 3, vI 0] (bgA ask A) = some (some (vI 1), B) ∧ RdS B T L p' t' ∧ CS ask B (cs.map clsC) ∧ gi B 44 2 = mnU 0 cs ∧ (gi B 42 11 = gi A 42 11 ∧ gi B 42 12 = gi A 42 12) ∧ (∀ a j, ¬ (a = 42 ∧ 2 ≤ j ∧ j ≤ 12) → a ≠ 44 → a ≠ 45 → gi B a j = gi A a j) ∧ (∀ a j, ¬ (a = 42 ∧ j = 7) → gr B a j = gr A a j) ∧ B.2.2 = A.2.2) := by
  unfold bgA
  have rB : RdS (wi (wi (wi A 44 1 (bI ask)) 44 2 0) 44 4 0) T L p t := RdS_fr (A := A) (fun j => by simp -implicitDefEqProofs (disch := omega) only [gi_wi, ↓reduceIte, Int.reduceEq, cI_v, cL_v, cV_v, cR_v, wid, wid64, if_pos, if_neg, Nat.add_zero, if_true, if_false, and_self, and_true, true_and, and_false, false_and, or_true, true_or, or_false, false_or]) (fun j => by simp -implicitDefEqProofs (disch := omega) only [gi_wi, ↓reduceIte, Int.reduceEq, cI_v, cL_v, cV_v, cR_v, wid, wid64, if_pos, if_neg, Nat.add_zero, if_true, if_false, and_self, and_true, true_and, and_false, false_and, or_true, true_or, or_false, false_or]) (fun _ => rfl) rfl r
  have cB : CS ask (wi (wi (wi A 44 1 (bI ask)) 44 2 0) 44 4 0) [] := ⟨by simp -implicitDefEqProofs (disch := omega) only [gi_wi, ↓reduceIte, Int.reduceEq, cI_v, cL_v, cV_v, cR_v, wid, wid64, if_pos, if_neg, Nat.add_zero, if_true, if_false, and_self, and_true, true_and, and_false, false_and, or_true, true_or, or_false, false_or], by simp -implicitDefEqProofs (disch := omega) only [gi_wi, ↓reduceIte, Int.reduceEq, cI_v, cL_v, cV_v, cR_v, wid, wid64, if_pos, if_neg, Nat.add_zero, if_true, if_false, and_self, and_true, true_and, and_false, false_and, or_true, true_or, or_false, false_or], by simp -implicitDefEqProofs (disch := omega) only [gi_wi, ↓reduceIte, Int.reduceEq, cI_v, cL_v, cV_v, cR_v, wid, wid64, if_pos, if_neg, Nat.add_zero, if_true, if_false, and_self, and_true, true_and, and_false, false_and, or_true, true_or, or_false, false_or]; rfl, fun i hi => by simp at hi⟩
  have fB : ∀ a j, a ≠ 44 → gi (wi (wi (wi A 44 1 (bI ask)) 44 2 0) 44 4 0) a j = gi A a j := fun a j h => by rw [gi_wi, if_neg (by omega), gi_wi, if_neg (by omega), gi_wi, if_neg (by omega)]
  obtain ⟨g1, g2⟩ := C_sum (d + 45) tx 0 (GP_partG tx ask 6) (C_part tx 6 (by omega) (d + 46) (by omega)) _ p t [] rB cB (by simp)
  refine ⟨fun k s q => ?_, fun cs p' t' q => ?_⟩
  · obtain ⟨B, b1, b2, b3, b4⟩ := g1 k s q
    refine ⟨B, ?_, b2, b3, fun a j x1 x2 x3 => ?_, fun a j x => b4.2.1 a j x, b4.2.2⟩
    · exact b1
    · rw [b4.1 a j x1 (by omega) x3]; exact fB a j x2
  · obtain ⟨B, b1, b2, b3, b4, b5, b6⟩ := g2 cs p' t' q
    refine ⟨B, ?_, b2, b3, ?_, ⟨?_, ?_⟩, fun a j x1 x2 x3 => ?_, fun a j x => b6.2.1 a j x, b6.2.2⟩
    · exact b1
    · rw [b4]; congr 1
    · rw [b5.1]; exact fB 42 11 (by omega)
    · rw [b5.2]; exact fB 42 12 (by omega)
    · rw [b6.1 a j x1 (by omega) x3]; exact fB a j x2
def worH (H : Nat → Nat → Int) (cd : Nat) (w : Nat) (cs : List Int) : Nat → Nat → Int := fun a j => if a = 233 ∧ 1600 + cd ≤ j ∧ j < 1600 + cd + cs.length then mcF false (cs.getD (j - 1600 - cd) 0) else if a = 231 ∧ j = 2 + w then (cd : Int) else if a = 232 ∧ j = 2 + w then ((cd + cs.length : Nat) : Int) else H a j
theorem worH_o (H : Nat → Nat → Int) (cd w : Nat) (cs : List Int) (a j : Nat) (h1 : ¬ (a = 233 ∧ 1600 + cd ≤ j ∧ j < 1600 + cd + cs.length)) (h2 : ¬ ((a = 231 ∨ a = 232) ∧ j = 2 + w)) : worH H cd w cs a j = H a j := by
  unfold worH
  rw [if_neg h1, if_neg (by omega), if_neg (by omega)]
theorem worH_v (H : Nat → Nat → Int) (cd w : Nat) (cs : List Int) : worH H cd w cs 231 (2 + w) = cd ∧ worH H cd w cs 232 (2 + w) = ((cd + cs.length : Nat) : Int) ∧ ∀ i, i < cs.length → worH H cd w cs 233 (1600 + cd + i) = mcF false (cs.getD i 0) := by
  unfold worH
  refine ⟨by rw [if_neg (by omega), if_pos ⟨rfl, rfl⟩], by rw [if_neg (by omega), if_neg (by omega), if_pos ⟨rfl, rfl⟩], fun i hi => ?_⟩
  rw [if_pos (by omega), show 1600 + cd + i - 1600 - cd = i by omega]
def CDK (H : Nat → Nat → Int) (cd : Nat) : Prop := ∀ w : Nat, w ≤ 1 → H 231 (2 + w) ≠ -1 → 0 ≤ H 231 (2 + w) ∧ H 231 (2 + w) ≤ H 232 (2 + w) ∧ H 232 (2 + w) ≤ cd
theorem wfL_h : ∀ (l : List Int) (ts : List Bool), wfL false l ts → ∀ v ∈ l, lfP false v ∨ (10 ≤ v ∧ v ≤ 15)
  | [], ts, _, v, hv => by simp at hv
  | x :: l, ts, h, v, hv => by
    rcases List.mem_cons.mp hv with y | y
    · rw [y]
      rcases h with ⟨h1, _⟩ | ⟨r, _, h2, _⟩ | ⟨h1, _⟩
      · exact Or.inl h1
      · exact Or.inr h2
      · cases h1
    · rcases h with ⟨_, _, h3⟩ | ⟨r, _, _, h3⟩ | ⟨h1, _⟩
      · exact wfL_h l _ h3 v y
      · exact wfL_h l _ h3 v y
      · cases h1
theorem tr_mc {v : Int} (h : lfP false v ∨ (10 ≤ v ∧ v ≤ 15)) : trC (mcF false v) = clsC v ∧ (mcF false v = 14 → v = 7) := by
  unfold lfP at h
  rw [if_neg (by decide)] at h
  rcases h with (h | h) | h
  · have e : mcF false v = v + 900 := by unfold mcF; rw [if_pos h.1]
    rw [e]
    unfold trC clsC
    rw [if_pos (by omega), if_neg (by omega)]; omega
  · have e : mcF false v = v + 7 := by unfold mcF; rw [if_neg (by omega), if_pos (by omega), if_neg (by decide)]
    rw [e]
    unfold trC clsC
    rw [if_neg (by omega), if_pos (by omega), if_neg (by omega)]; omega
  · have e : mcF false v = v - 9 := by unfold mcF; rw [if_neg (by omega), if_neg (by omega), if_neg (by omega), if_neg (by omega)]
    rw [e]
    unfold trC clsC
    rw [if_neg (by omega), if_neg (by omega), if_neg (by omega)]; omega
theorem getD_mem {l : List Int} {i : Nat} (h : i < l.length) : l.getD i 0 ∈ l := by
  rw [List.getD_eq_getElem?_getD, List.getElem?_eq_getElem h]
  exact List.getElem_mem h
theorem HS_wor {A B : AH} {h z : Nat} {H : Nat → Nat → Int} (s : HS A h H) (cd w : Nat) (hw : w ≤ 1) (cs : List Int) (hcs : wfL false cs []) (ck : CDK H cd) (hcd : cd + cs.length ≤ 1600) (hz : h + 9 < z) (z16 : gr A h 16 < z) (z17 : gr A h 17 < z) (g : ∀ a j, 271 ≤ a → a < z → ¬ (a = h ∧ j = 18) → gi B a j = gi A a j) (gz : ∀ i, i < cs.length → gi B z i = clsC (cs.getD i 0)) (lz : ln B z = cs.length) (la : ∀ a, a < z → ln B a = ln A a) (gw : gr B h (16 + w) = z) (go' : gr B h (16 + (1 - w)) = gr A h (16 + (1 - w))) (g46 : gr B 46 3 = h) (g18 : gi B h 18 = mnU (gi A h 18) cs) : HS B h (worH H cd w cs) := by
  obtain ⟨s1, s2, s3, s4, s5, s6⟩ := s
  have o := worH_o H cd w cs
  obtain ⟨v1, v2, v3⟩ := worH_v H cd w cs
  have hm := wfL_h cs [] hcs
  have c224 : ∀ j, worH H cd w cs 224 j = H 224 j := fun j => o 224 j (by omega) (by omega)
  have nPe' : nPe (worH H cd w cs) = nPe H := c224 6
  have nMu' : nMu (worH H cd w cs) = nMu H := c224 7
  have nPo' : nPo (worH H cd w cs) = nPo H := c224 8
  have nNo' : nNo (worH H cd w cs) = nNo H := c224 9
  have nHa' : nHa (worH H cd w cs) = nHa H := c224 10
  have nSe' : nSe (worH H cd w cs) = nSe H := c224 11
  obtain ⟨r1, r2, r3, r4, r5, r6, r7, r8, r9, r10, r11, r12, r13, r14, r15⟩ := s1
  have G : ∀ i j, 1 ≤ i → i ≤ 9 → gi B (h + i) j = gi A (h + i) j := fun i j h1 h2 => g (h + i) j (by omega) (by omega) (by omega)
  have new : WR B z (worH H cd w cs) w := by
    unfold WR codF
    rw [show ((2 : Int) + (w : Int)).toNat = 2 + w by omega, v1, v2, lz]
    refine Or.inr ⟨by omega, by omega, by omega, fun k h1 h2 => ?_⟩
    obtain ⟨i, rfl⟩ : ∃ i : Nat, k = i := ⟨k.toNat, by omega⟩
    rw [Int.toNat_natCast, gz i (by omega), show (1600 + ((cd : Int) + (i : Int))).toNat = 1600 + cd + i by omega, v3 i (by omega)]
    exact (tr_mc (hm _ (getD_mem (by omega)))).1.symm
  have old : ∀ u : Nat, u ≤ 1 → u ≠ w → ∀ q, (q = 0 ∨ h + 9 < q) → q < z → WR A q H u → WR B q (worH H cd w cs) u := by
    intro u hu hne q hq hqz hW
    unfold WR codF at *
    rw [show ((2 : Int) + (u : Int)).toNat = 2 + u by omega] at *
    rw [o 231 _ (by omega) (by omega), o 232 _ (by omega) (by omega), la q hqz]
    rcases hW with hW | ⟨x1, x2, x3, x4⟩
    · exact Or.inl hW
    · refine Or.inr ⟨x1, x2, x3, fun k y1 y2 => ?_⟩
      have cc := ck u hu x1
      rw [o 233 _ (by omega) (by omega), g q _ (by omega) hqz (by omega)]
      exact x4 k y1 y2
  have w01 : w = 0 ∨ w = 1 := by omega
  have W0 : WR B (gr B h 16) (worH H cd w cs) 0 ∧ WR B (gr B h 17) (worH H cd w cs) 1 ∧ (gr B h 16 = 0 ∨ h + 9 < gr B h 16) ∧ (gr B h 17 = 0 ∨ h + 9 < gr B h 17) := by
    rcases w01 with rfl | rfl
    · have a1 : gr B h 16 = z := gw
      have a2 : gr B h 17 = gr A h 17 := go'
      rw [a1, a2]
      exact ⟨new, old 1 (by omega) (by omega) _ s6 z17 r14, Or.inr hz, s6⟩
    · have a1 : gr B h 17 = z := gw
      have a2 : gr B h 16 = gr A h 16 := go'
      rw [a1, a2]
      exact ⟨old 0 (by omega) (by omega) _ s5 z16 r13, new, s5, Or.inr hz⟩
  refine ⟨⟨r1, ?_, ?_, ?_, ?_, ?_, ?_, ?_, ?_, ?_, ?_, ?_, W0.1, W0.2.1, ?_, ?_⟩, ⟨?_, ?_, ?_, ?_⟩, g46, s4, W0.2.2.1, W0.2.2.2⟩
  · rw [nSe', nPe', nPo', nNo', nMu', nHa', g h 1 (by omega) (by omega) (by omega), g h 2 (by omega) (by omega) (by omega), g h 3 (by omega) (by omega) (by omega), g h 4 (by omega) (by omega) (by omega), g h 5 (by omega) (by omega) (by omega), g h 6 (by omega) (by omega) (by omega)]
    exact r2
  · intro x hx
    unfold exi at hx
    rw [nPe', nMu'] at hx
    rw [G 2 _ (by omega) (by omega), G 3 _ (by omega) (by omega)]
    have := r3 x hx
    unfold keepsF itchF at *
    by_cases c2 : x < 10
    · rw [if_pos c2] at this ⊢
      rw [if_pos c2] at this ⊢
      rw [o 226 _ (by omega) (by omega), o 226 _ (by omega) (by omega)]; exact this
    · rw [if_neg c2] at this ⊢
      rw [if_neg c2] at this ⊢
      rw [o 227 _ (by omega) (by omega)]; exact this
  · intro x h1 h2 h3
    unfold exi at h3
    rw [nPe', nMu'] at h3
    rw [G 3 _ (by omega) (by omega)]
    exact r4 x h1 h2 h3
  · intro k h1 h2
    rw [nPe'] at h2
    rw [G 4 _ (by omega) (by omega), G 5 _ (by omega) (by omega), o 226 _ (by omega) (by omega), o 226 _ (by omega) (by omega)]
    exact r5 k h1 h2
  · intro k h1 h2
    rw [nMu'] at h2
    rw [G 6 _ (by omega) (by omega), o 227 _ (by omega) (by omega)]
    exact r6 k h1 h2
  · intro k h1 h2
    rw [nPo'] at h2
    rw [G 7 _ (by omega) (by omega), o 228 _ (by omega) (by omega)]
    exact r7 k h1 h2
  · intro k h1 h2
    rw [nNo'] at h2
    rw [G 8 _ (by omega) (by omega), o 229 _ (by omega) (by omega)]
    exact r8 k h1 h2
  · intro k h1 h2
    rw [G 9 _ (by omega) (by omega), o 230 _ (by omega) (by omega)]
    exact r9 k h1 h2
  · intro k h1 h2
    rw [nPe'] at h2
    rw [G 1 _ (by omega) (by omega), o 225 _ (by omega) (by omega)]
    exact r10 k h1 h2
  · intro k h1 h2
    rw [nMu'] at h2
    rw [G 1 _ (by omega) (by omega), o 225 _ (by omega) (by omega)]
    exact r11 k h1 h2
  · intro k h1 h2
    rw [nPo'] at h2
    rw [G 1 _ (by omega) (by omega), o 225 _ (by omega) (by omega)]
    exact r12 k h1 h2
  · rw [g18]; exact mnU_01 _ _
  · rw [g18]
    intro zz
    have z0 : gi A h 18 = 0 ∧ 7 ∉ cs := by
      unfold mnU at zz
      by_cases c : gi A h 18 = 1 ∨ 7 ∈ cs
      · rw [if_pos c] at zz; omega
      · have := r15.1
        exact ⟨by omega, fun y => c (Or.inr y)⟩
    have nm := r15.2 z0.1
    unfold noMin codF at *
    intro u u1 u2 u3 k y1 y2
    obtain ⟨u, rfl⟩ : ∃ u' : Nat, u = u' := ⟨u.toNat, by omega⟩
    rw [show ((2 : Int) + (u : Int)).toNat = 2 + u by omega] at *
    by_cases c : u = w
    · rw [c, v1] at y1
      rw [c, v2] at y2
      obtain ⟨i, hi⟩ : ∃ i : Nat, k = (cd : Int) + i := ⟨(k - cd).toNat, by omega⟩
      rw [hi, show (1600 + ((cd : Int) + (i : Int))).toNat = 1600 + cd + i by omega, v3 i (by omega)]
      intro q
      have mem := getD_mem (l := cs) (i := i) (by omega)
      have := (tr_mc (hm _ mem)).2 q
      rw [this] at mem
      exact z0.2 mem
    · rw [o 231 _ (by omega) (by omega)] at u3 y1
      rw [o 232 _ (by omega) (by omega)] at y2
      have cc := ck u (by omega) u3
      rw [o 233 _ (by omega) (by omega)]
      have := nm u (by omega) (by omega)
      rw [show ((2 : Int) + (u : Int)).toNat = 2 + u by omega] at this
      exact this u3 k y1 y2
  · intro k h1 h2
    rw [nPe'] at h2
    rw [o 225 _ (by omega) (by omega)]
    exact s2.1 k h1 h2
  · intro k h1 h2
    rw [nMu'] at h2
    rw [o 225 _ (by omega) (by omega)]
    exact s2.2.1 k h1 h2
  · intro k h1 h2
    rw [nPo'] at h2
    rw [o 225 _ (by omega) (by omega)]
    exact s2.2.2.1 k h1 h2
  · intro j h1 h2 h3 h4 h5
    rw [nPe'] at h3
    rw [nMu'] at h4
    rw [nPo'] at h5
    rw [G 1 _ (by omega) (by omega)]
    exact s2.2.2.2 j h1 h2 h3 h4 h5
