/-! odds and fell: the class's pieces -/
theorem bt_and (x y : Int32) (i : Nat) : bt (x &&& y) i = (bt x i && bt y i) := by
  unfold bt
  show (x.toBitVec &&& y.toBitVec).getLsbD i = _
  rw [BitVec.getLsbD_and]
theorem bt_xor (x y : Int32) (i : Nat) : bt (x ^^^ y) i = (bt x i ^^ bt y i) := by
  unfold bt
  show (x.toBitVec ^^^ y.toBitVec).getLsbD i = _
  rw [BitVec.getLsbD_xor]
theorem bt_m1 : ∀ i, i < 32 → bt (Int32.ofInt (-1)) i = true := by decide
theorem bt_0 (i : Nat) : bt (0 : Int32) i = false := by
  unfold bt
  show (0#32).getLsbD i = false
  simp
theorem band_free {S F : Nat} (hS : S < 256) : band S (bxor F (-1)) = 0 ↔ ∀ i, i < 8 → S.testBit i = true → F.testBit i = true := by
  rw [band_eq, bxor_eq, Int32.ofInt_toInt, of_nI, of_nI]
  have big : ∀ i, 8 ≤ i → S.testBit i = false := fun i hi => Nat.testBit_lt_two_pow (Nat.lt_of_lt_of_le hS (Nat.pow_le_pow_right (n := 2) (by omega) hi))
  constructor
  · intro h i hi hs
    have h0 : nI S &&& (nI F ^^^ Int32.ofInt (-1)) = 0 := Int32.toInt_inj.mp (by rw [h]; rfl)
    have h1 := congrArg (fun x => bt x i) h0
    simp only [bt_and, bt_xor, bt_0] at h1
    rw [bt_nI _ _ (by omega), bt_nI _ _ (by omega), bt_m1 i (by omega), hs] at h1
    simpa using h1
  · intro h
    have h0 : nI S &&& (nI F ^^^ Int32.ofInt (-1)) = 0 := b_ext (fun i hi => by
      rw [bt_and, bt_xor, bt_0, bt_nI _ _ hi, bt_nI _ _ hi, bt_m1 i hi]
      by_cases c : S.testBit i = true
      · have c8 : i < 8 := Classical.byContradiction (fun q => by rw [big i (by omega)] at c; exact absurd c (by decide))
        rw [c, h i c8 c]; rfl
      · rw [show S.testBit i = false by simpa using c]; rfl)
    rw [h0]; rfl
set_option maxRecDepth 100000 in
theorem l_itching (d h : Nat) {H : Nat → Nat → Int} (hc : cok H) (hh : hok H) (A : AH) (b6 : HR A h H) : ∀ (j n k v : Nat), (k : Int) + j = nPe H → v < 2 ^ k → (∀ i, v.testBit i = (itB H i && decide (i < k))) → 10 * j + 10 ≤ n → ∃ F : Nat, go true 0 (runF d) (runN d) pb_X1_itching n 4 [vR 13 h 0, vI v, vI k] [] A = some (some (vI F), A) ∧ F < 256 ∧ ∀ i, F.testBit i = itB H i := by
  have hh0 : h ≠ 0 := by have := b6.1; omega
  have hc' := hc
  unfold cok at hc'
  intro j
  induction j with
  | zero =>
    intro n k v h1 h2 h3 hn
    obtain ⟨n, rfl⟩ : ∃ e, n = e + 3 := ⟨n - 3, by omega⟩
    have p8 : 2 ^ k ≤ 2 ^ 8 := Nat.pow_le_pow_right (by omega) (by omega)
    refine ⟨v, ?_, by omega, fun i => ?_⟩
    · rw [q_X1_itching_4 (ha0 := hh0), b6.2.1.2.1, if_neg (by omega)]
    · rw [h3 i]
      cases q : itB H i
      · rfl
      · have := (itB_lt hc q).2.1
        rw [decide_eq_true (by omega)]; rfl
  | succ j ih =>
    intro n k v h1 h2 h3 hn
    obtain ⟨n, rfl⟩ : ∃ e, n = e + 10 := ⟨n - 10, by omega⟩
    have e := (b6.2.2.1 k (by unfold exi; omega)).2
    have tk : ((k : Nat) : Int).toNat = k := Int.toNat_natCast k
    rw [tk] at e
    have ib := itch_bd hh (num_8 (i := k) (by omega))
    have p8 : 2 ^ k ≤ 2 ^ 7 := Nat.pow_le_pow_right (by omega) (by omega)
    rw [q_X1_itching_4 (ha0 := hh0), b6.2.1.2.1, if_pos (by omega), if_pos (by omega), tk, e]
    by_cases c : 0 < itchF H k
    · have it : itB H k = true := by unfold itB; rw [decide_eq_true (by omega), decide_eq_true (p := itchF H k ≠ 0) (by omega)]; rfl
      have eo : bor (v : Int) (bshl 1 k) = ((v ||| 2 ^ k : Nat) : Int) := by
        rw [bshl_1 (by omega) (by omega), Int.toNat_natCast, bor_n (by omega) (by omega) (Int.natCast_nonneg _) (by omega), Int.toNat_natCast, Int.toNat_natCast]
      have p9 : 2 ^ k < 2 ^ (k + 1) := Nat.pow_lt_pow_right (by omega) (by omega)
      obtain ⟨F, u1, u2⟩ := ih (n + 8) (k + 1) (v ||| 2 ^ k) (by omega) (Nat.or_lt_two_pow (by omega) p9) (fun i => by
        rw [Nat.testBit_or, h3 i, Nat.testBit_two_pow]
        by_cases z : k = i
        · subst z
          rw [it, decide_eq_true (p := k = k) rfl, decide_eq_true (p := k < k + 1) (by omega)]; simp
        · rw [decide_eq_false z, Bool.or_false]
          have : decide (i < k) = decide (i < k + 1) := by rw [decide_eq_decide]; omega
          rw [this]) (by omega)
      refine ⟨F, ?_, u2⟩
      rw [if_pos c, q_X1_itching_29 (ha0 := hh0), eo, wid (by omega) (by omega), show (k : Int) + 1 = ((k + 1 : Nat) : Int) by omega, Nat.add_zero (n + 8)]
      exact u1
    · have it : itB H k = false := by unfold itB; rw [decide_eq_false (p := itchF H k ≠ 0) (by omega), Bool.and_false]
      have eo : bor (v : Int) 0 = (v : Int) := by
        rw [bor_n (by omega) (by omega) (by omega) (by omega), Int.toNat_natCast]; simp
      obtain ⟨F, u1, u2⟩ := ih (n + 7) (k + 1) v (by omega) (by rw [Nat.pow_succ]; omega) (fun i => by
        rw [h3 i]
        by_cases z : i = k
        · rw [z, it]; rfl
        · have : decide (i < k) = decide (i < k + 1) := by rw [decide_eq_decide]; omega
          rw [this]) (by omega)
      refine ⟨F, ?_, u2⟩
      rw [if_neg c, q_X1_itching_29 (ha0 := hh0), eo, wid (by omega) (by omega), show (k : Int) + 1 = ((k + 1 : Nat) : Int) by omega]
      exact u1
set_option maxRecDepth 100000 in
theorem s_itching (d h : Nat) {H : Nat → Nat → Int} (hc : cok H) (hh : hok H) (A : AH) (b6 : HR A h H) : ∃ F : Nat, runF (d + 1) 17 [vR 13 h 0] A = some (some (vI F), A) ∧ F < 256 ∧ ∀ i, F.testBit i = itB H i := by
  have hh0 : h ≠ 0 := by have := b6.1; omega
  have hc' := hc
  unfold cok at hc'
  obtain ⟨F, u1, u2⟩ := l_itching d h hc hh A b6 (nPe H).toNat (fu + 199) 0 0 (by omega) (by decide) (fun i => by simp) (by have := fu_ge; omega)
  refine ⟨F, ?_, u2⟩
  rw [r_X1_itching, q_X1_itching_0 (ha0 := hh0), Nat.add_zero (fu + 199)]
  exact u1
def icF (H : Nat → Nat → Int) (x : Int) : Int := if 0 ≤ x ∧ x < nPe H then itchF H x else 0
def gCh (H : Nat → Nat → Int) (S x : Int) : Int := if tb S x = true then icF H x else 100 - icF H x
theorem icF_bd {H : Nat → Nat → Int} (hc : cok H) (hh : hok H) (x : Int) : 0 ≤ icF H x ∧ icF H x ≤ 100 := by
  unfold cok at hc
  unfold icF
  split
  · exact itch_bd hh (by unfold num; omega)
  · omega
set_option maxRecDepth 100000 in
theorem l_chances (d h : Nat) {H : Nat → Nat → Int} (hc : cok H) (hh : hok H) (A : AH) (b6 : HR A h H) (S : Int) (s0 : 0 ≤ S) (s1 : S < 256) : ∀ (j n k : Nat) (v : Int), k + j = 8 → 0 ≤ v → v ≤ ((100 ^ k : Nat) : Int) → 10 * j + 10 ≤ n → go true 1 (runF d) (runN d) pb_X1_chancesOf n 5 [vR 13 h 0, vI S, vL v, vS, vI k] [] A = some (some (vL (v * pm (gCh H S) j k)), A) := by
  have hh0 : h ≠ 0 := by have := b6.1; omega
  have hc' := hc
  unfold cok at hc'
  intro j
  induction j with
  | zero =>
    intro n k v h1 h2 h3 hn
    obtain ⟨n, rfl⟩ : ∃ e, n = e + 3 := ⟨n - 3, by omega⟩
    rw [q_X1_chancesOf_5 (ha0 := hh0), if_neg (by omega), pm, Int.mul_one]
  | succ j ih =>
    intro n k v h1 h2 h3 hn
    obtain ⟨n, rfl⟩ : ∃ e, n = e + 10 := ⟨n - 10, by omega⟩
    have tk : ((k : Nat) : Int).toNat = k := Int.toNat_natCast k
    have e : gi A (h + 3) k = icF H k := by
      unfold icF
      by_cases c : (0 : Int) ≤ k ∧ (k : Int) < nPe H
      · have := (b6.2.2.1 k (Or.inl c)).2
        rw [tk] at this
        rw [if_pos c, this]
      · have := b6.2.2.2.1 k (by omega) (by omega) (by unfold exi; omega)
        rw [tk] at this
        rw [if_neg c, this]
    have ib := icF_bd hc hh k
    have p8 : 100 ^ (k + 1) ≤ 100 ^ 8 := Nat.pow_le_pow_right (by omega) (by omega)
    have eg : gCh H S k = if tb S k = true then icF H k else 100 - icF H k := rfl
    rw [q_X1_chancesOf_5 (ha0 := hh0), if_pos (by omega), band_tb s0 (by omega) (by omega) (by omega), pm]
    by_cases c : tb S k = true
    · have mb := mul_100 h2 h3 ib.1 ib.2
      rw [if_pos c] at eg
      rw [c, bI_t, if_neg (by omega), if_pos (by omega), tk, e, q_X1_chancesOf_44 (ha0 := hh0), wid64 (by omega) (by omega), wid (by omega) (by omega), eg, show (k : Int) + 1 = ((k + 1 : Nat) : Int) by omega, ih _ (k + 1) _ (by omega) mb.1 mb.2 (by omega), Int.mul_assoc]
    · have mb := mul_100 (g := 100 - icF H k) h2 h3 (by omega) (by omega)
      rw [if_neg c] at eg
      rw [show tb S k = false by simpa using c, bI_f, if_pos rfl, if_pos (by omega), tk, e, q_X1_chancesOf_44 (ha0 := hh0), wid (x := 100 - icF H k) (by omega) (by omega), wid64 (by omega) (by omega), wid (by omega) (by omega), eg, show (k : Int) + 1 = ((k + 1 : Nat) : Int) by omega, ih _ (k + 1) _ (by omega) mb.1 mb.2 (by omega), Int.mul_assoc]
set_option maxRecDepth 100000 in
theorem s_chances (d h : Nat) {H : Nat → Nat → Int} (hc : cok H) (hh : hok H) (A : AH) (b6 : HR A h H) (S : Int) (s0 : 0 ≤ S) (s1 : S < 256) : runF (d + 1) 19 [vR 13 h 0, vI S] A = some (some (vL (pm (gCh H S) 8 0)), A) := by
  have hh0 : h ≠ 0 := by have := b6.1; omega
  have u := l_chances d h hc hh A b6 S s0 s1 8 (fu + 199) 0 1 (by omega) (by omega) (by omega) (by have := fu_ge; omega)
  rw [r_X1_chancesOf, q_X1_chancesOf_0 (ha0 := hh0), Nat.add_zero (fu + 199)]
  rw [Int.one_mul] at u
  exact u
/-- how a pair of sets answers alike -/
theorem pr_moved {B A : AH} (mB : mok B) (h : LI B A 16) {p : Nat × Nat} (hp : p ∈ prs (itB (hv B)) 8) : sm (oth (hv B) (nv B) (nv B 0) (nv B 2) (gi B 190 65)) 16 0 + sm (gMv A p.1) (cn (itB (hv B)) 16) 0 = swF (hv B) (nv B) (nv B 0) (nv B 2) (gi B 190 65) p.2 := by
  obtain ⟨p1, p2, p3⟩ := prs_3 _ _ p hp
  unfold swF
  have tbS : ∀ i : Nat, tb (p.2 : Int) (i : Int) = p.2.testBit i := fun i => by unfold tb; rw [Int.toNat_natCast, Int.toNat_natCast]
  refine (sm_pack (itB (hv B)) (gMv A p.1) _ (oth (hv B) (nv B) (nv B 0) (nv B 2) (gi B 190 65)) ?_ ?_ ?_ 16).symm
  · intro i hi
    have l := itB_lt mB.1 hi
    have si : sit (hv B) (nv B) i = true := by unfold sit; rw [decide_eq_true (by omega)]; rfl
    have r := h.2.2.2.2.2 i (by omega) hi
    have e : p.2.testBit i = p.1.testBit (cn (itB (hv B)) i) := by rw [p3 i l.1, hi, Bool.true_and]
    rw [if_pos si, tbS, e]
    unfold gMv tb
    rw [Int.toNat_natCast, Int.toNat_natCast]
    by_cases c : p.1.testBit (cn (itB (hv B)) i) = true
    · rw [if_pos c, c, r.2.2]
    · rw [if_neg c, show p.1.testBit (cn (itB (hv B)) i) = false by simpa using c, r.2.1]
  · intro i hi
    have e : p.2.testBit i = false := by
      by_cases c : i < 8
      · rw [p3 i c, hi]; rfl
      · exact Nat.testBit_lt_two_pow (Nat.lt_of_lt_of_le p2 (Nat.pow_le_pow_right (by omega) (by omega)))
    rw [tbS, e]
    unfold oth
    rw [Int.toNat_natCast]
    by_cases c : sit (hv B) (nv B) i = true
    · rw [if_pos c, if_pos ⟨c, hi⟩]
    · rw [if_neg c, if_neg (fun q => c q.1)]
  · intro i hi
    unfold oth
    rw [Int.toNat_natCast, if_neg (fun q => by rw [hi] at q; exact absurd q.2 (by decide))]
theorem pr_ways {B A : AH} (mB : mok B) (h : LI B A 16) {p : Nat × Nat} (hp : p ∈ prs (itB (hv B)) 8) : pm (gCh (hv B) p.2) 8 0 = pm (gWy A p.1) (cn (itB (hv B)) 16) 0 * 100 ^ (8 - cn (itB (hv B)) 16) := by
  obtain ⟨p1, p2, p3⟩ := prs_3 _ _ p hp
  have tbS : ∀ i : Nat, tb (p.2 : Int) (i : Int) = p.2.testBit i := fun i => by unfold tb; rw [Int.toNat_natCast, Int.toNat_natCast]
  rw [cn_16 mB.1, pm_pack (itB (hv B)) (gWy A p.1)]
  · intro i hi
    have l := itB_lt mB.1 hi
    have r := h.2.2.2.2.2 i (by omega) hi
    have e : p.2.testBit i = p.1.testBit (cn (itB (hv B)) i) := by rw [p3 i l.1, hi, Bool.true_and]
    have ic : icF (hv B) i = itchF (hv B) i := by unfold icF; rw [if_pos (by omega)]
    unfold gCh gWy
    rw [tbS, e, ic, LI_hv h, Int.toNat_natCast, r.1]
    unfold tb
    rw [Int.toNat_natCast, Int.toNat_natCast]
  · intro i hi
    unfold gCh
    rw [tbS]
    have iz : icF (hv B) i = 0 := by
      unfold icF
      by_cases c : (0 : Int) ≤ i ∧ (i : Int) < nPe (hv B)
      · rw [if_pos c]
        unfold itB at hi
        rw [decide_eq_true c.2, Bool.true_and] at hi
        exact Classical.byContradiction (fun q => by rw [decide_eq_true q] at hi; exact absurd hi (by decide))
      · rw [if_neg c]
    have e : p.2.testBit i = false := by
      by_cases c : i < 8
      · rw [p3 i c, hi]; rfl
      · exact Nat.testBit_lt_two_pow (Nat.lt_of_lt_of_le p2 (Nat.pow_le_pow_right (by omega) (by omega)))
    rw [e, iz, if_neg (by decide)]; rfl
set_option maxRecDepth 100000 in
theorem s_people (d : Nat) {B A : AH} (mB : mok B) (h : LI B A 16) {p : Nat × Nat} (hp : p ∈ prs (itB (hv B)) 8) : runF (d + 1) 246 [vR 21 190 0, vI p.1] A = some (some (vI p.2), A) := by
  obtain ⟨p1, p2, p3⟩ := prs_3 _ _ p hp
  have c8 := cn_id (itB (hv B)) 8
  have p8 : 2 ^ cn (itB (hv B)) 8 ≤ 2 ^ 8 := Nat.pow_le_pow_right (by omega) c8
  obtain ⟨V, u1, u2, u3⟩ := l_people d B A mB h p.1 (by omega) (cn (itB (hv B)) 16) (fu + 199) 0 0 (by omega) (by omega) (fun i => by simp) (by have := fu_ge; have := cn_id (itB (hv B)) 16; omega)
  have e : V = p.2 := by
    apply Nat.eq_of_testBit_eq
    intro i
    rw [u3 i]
    by_cases c : i < 8
    · rw [p3 i c]
      cases q : itB (hv B) i
      · rfl
      · rw [decide_eq_true (cn_lt q (by omega))]; simp
    · rw [Nat.testBit_lt_two_pow (Nat.lt_of_lt_of_le p2 (Nat.pow_le_pow_right (by omega) (by omega)))]
      cases q : itB (hv B) i
      · rfl
      · have := (itB_lt mB.1 q).1; omega
  rw [e] at u1
  rw [r_X12_peopleIn, q_X12_peopleIn_0, Nat.add_zero (fu + 199)]
  exact u1
