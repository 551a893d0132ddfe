/-! odds and fell: the pieces -/
def itB (H : Nat → Nat → Int) (i : Nat) : Bool := decide ((i : Int) < nPe H) && decide (itchF H i ≠ 0)
def oth (H : Nat → Nat → Int) (row : Nat → Int) (m a q : Int) (x : Int) : Int := if sit H row x = true ∧ itB H x.toNat = false then movesF H row m a q x false else 0
theorem itB_lt {H : Nat → Nat → Int} (hc : cok H) {i : Nat} (h : itB H i = true) : i < 8 ∧ (i : Int) < nPe H ∧ itchF H i ≠ 0 := by
  unfold cok at hc
  unfold itB at h
  rw [Bool.and_eq_true, decide_eq_true_eq, decide_eq_true_eq] at h
  exact ⟨by omega, h.1, h.2⟩
theorem cn_lt {it : Nat → Bool} {i b : Nat} (h : it i = true) (hb : i < b) : cn it i < cn it b := by
  have := cn_le it (i := i + 1) (b := b) (by omega)
  rw [cn, if_pos h] at this
  omega
theorem cn_sur (it : Nat → Bool) : ∀ (b k : Nat), k < cn it b → ∃ i, i < b ∧ it i = true ∧ cn it i = k
  | 0, k, h => by rw [cn] at h; omega
  | b + 1, k, h => by
    rw [cn] at h
    by_cases c : it b = true
    · rw [if_pos c] at h
      by_cases e : k = cn it b
      · exact ⟨b, by omega, c, e.symm⟩
      · obtain ⟨i, h1, h2, h3⟩ := cn_sur it b k (by omega)
        exact ⟨i, by omega, h2, h3⟩
    · rw [if_neg c] at h
      obtain ⟨i, h1, h2, h3⟩ := cn_sur it b k (by omega)
      exact ⟨i, by omega, h2, h3⟩
theorem cn_16 {H : Nat → Nat → Int} (hc : cok H) : cn (itB H) 16 = cn (itB H) 8 := by
  have f : ∀ i, 8 ≤ i → ¬ itB H i = true := fun i hi h => by have := (itB_lt hc h).1; omega
  simp only [cn]
  rw [if_neg (f 15 (by omega)), if_neg (f 14 (by omega)), if_neg (f 13 (by omega)), if_neg (f 12 (by omega)), if_neg (f 11 (by omega)), if_neg (f 10 (by omega)), if_neg (f 9 (by omega)), if_neg (f 8 (by omega))]
  simp only [Nat.add_zero]
def LI (B A : AH) (x : Nat) : Prop := (∀ a j, ¬ (scrM a j ∨ (a = 190 ∧ (j = 69 ∨ j = 70)) ∨ (239 ≤ a ∧ a ≤ 241)) → gi A a j = gi B a j) ∧ (∀ a j, a ≠ 180 → gr A a j = gr B a j) ∧ A.2.2 = B.2.2 ∧ gi A 190 69 = (cn (itB (hv B)) x : Nat) ∧ gi A 190 70 = sm (oth (hv B) (nv B) (nv B 0) (nv B 2) (gi B 190 65)) x 0 ∧ ∀ i : Nat, i < x → itB (hv B) i = true → gi A 239 (cn (itB (hv B)) i) = i ∧ gi A 240 (cn (itB (hv B)) i) = movesF (hv B) (nv B) (nv B 0) (nv B 2) (gi B 190 65) i false ∧ gi A 241 (cn (itB (hv B)) i) = movesF (hv B) (nv B) (nv B 0) (nv B 2) (gi B 190 65) i true
theorem LI_hv {B A : AH} {x : Nat} (h : LI B A x) : hv A = hv B := hv_fr (fun a j q1 q2 => h.1 a j (by unfold scrM; omega))
theorem LI_nv {B A : AH} {x : Nat} (h : LI B A x) : nv A = nv B := by funext j; exact h.1 237 j (by unfold scrM; omega)
theorem LI_q {B A : AH} {x : Nat} (h : LI B A x) : gi A 190 65 = gi B 190 65 := h.1 190 65 (by unfold scrM; omega)
theorem LI_sc {B A : AH} {x : Nat} (h : LI B A x) : sc B A := ⟨fun a j q => h.1 a j (by unfold scr at q; unfold scrM; omega), h.2.1, h.2.2.1⟩
theorem LI_mok {B A : AH} {x : Nat} (h : LI B A x) (m : mok B) : mok A := mok_sc (LI_sc h) m
theorem oth_bd {H : Nat → Nat → Int} (hc : cok H) (hh : hok H) (row : Nat → Int) (m a q x : Int) : -999 ≤ oth H row m a q x ∧ oth H row m a q x ≤ 999 := by
  unfold oth
  split
  · next h => exact moves_bd hh row m a q (sit_num hc h.1) false
  · omega
set_option maxRecDepth 100000 in
theorem l_lays (d : Nat) (B : AH) (mB : mok B) : ∀ (j n x : Nat) (A : AH), x + j = 16 → LI B A x → 20 * j + 20 ≤ n → ∃ A', go true 3 (runF (d + 6)) (runN (d + 6)) pb_X12_laysItchers n 12 [vR 21 190 0, vI x] [] A = some (none, A') ∧ LI B A' 16 := by
  have hc := mB.1
  have hh := mB.2.1
  have hc' := hc
  unfold cok at hc'
  intro j
  induction j with
  | zero =>
    intro n x A h1 h2 hn
    obtain ⟨n, rfl⟩ : ∃ e, n = e + 5 := ⟨n - 5, by omega⟩
    have e : x = 16 := by omega
    subst e
    refine ⟨A, ?_, h2⟩
    rw [q_X12_laysItchers_12, if_neg (by omega)]
  | succ j ih =>
    intro n x A h1 h2 hn
    obtain ⟨n, rfl⟩ : ∃ e, n = e + 20 := ⟨n - 20, by omega⟩
    have mA := LI_mok h2 mB
    have nx : ∀ (m : Nat) (C : AH), n ≤ m → LI B C (x + 1) → ∃ A', go true 3 (runF (d + 6)) (runN (d + 6)) pb_X12_laysItchers (m + 1) 105 [vR 21 190 0, vI x] [] C = some (none, A') ∧ LI B A' 16 := by
      intro m C hm hC
      obtain ⟨A', u1, u2⟩ := ih m (x + 1) C (by omega) hC (by omega)
      refine ⟨A', ?_, u2⟩
      rw [q_X12_laysItchers_105, wid (by omega) (by omega), Nat.add_zero m, show (x : Int) + 1 = ((x + 1 : Nat) : Int) by omega]
      exact u1
    have ob := fun i => oth_bd hc hh (nv B) (nv B 0) (nv B 2) (gi B 190 65) i
    have sb := sm_bd (f := oth (hv B) (nv B) (nv B 0) (nv B 2) (gi B 190 65)) x 0 (fun i _ _ => ob i)
    rw [q_X12_laysItchers_12, if_pos (by omega), s_doesSit _ _ A mA.1, cI_v, LI_hv h2, LI_nv h2]
    by_cases cs : sit (hv B) (nv B) x = true
    · have nx1 := sit_num hc cs
      rw [cs, bI_t, if_neg (by omega), s_itchesOf _ _ A nx1, cI_v, LI_hv h2]
      by_cases ci : itchF (hv B) x = 0
      · have itf : itB (hv B) x = false := by unfold itB; rw [decide_eq_false (p := itchF (hv B) x ≠ 0) (fun q => q ci), Bool.and_false]
        obtain ⟨C, m1, m2⟩ := s_moves d x false A mA nx1
        rw [bI_f, LI_hv h2, LI_nv h2, LI_q h2] at m1
        have eo : oth (hv B) (nv B) (nv B 0) (nv B 2) (gi B 190 65) x = movesF (hv B) (nv B) (nv B 0) (nv B 2) (gi B 190 65) x false := by
          unfold oth; rw [if_pos ⟨cs, by rw [Int.toNat_natCast]; exact itf⟩]
        have mb := ob x
        rw [eo] at mb
        rw [if_pos ci, m1, cI_v, h2.2.2.2.2.1, wid (by omega) (by omega), q_X12_laysItchers_52]
        refine nx (n + 16) _ (by omega) ⟨fun a i q => ?_, fun a i q => ?_, ?_, ?_, ?_, fun i hi ht => ?_⟩
        · rw [gi_wi, if_neg (by omega), m2.1 a i (fun z => q (Or.inl z))]; exact h2.1 a i q
        · rw [← h2.2.1 a i q, ← m2.2.1 a i q]; rfl
        · rw [← h2.2.2.1, ← m2.2.2]; rfl
        · rw [gi_wi, if_neg (by omega), m2.1 190 69 (by unfold scrM; omega), h2.2.2.2.1, cn, itf]; rfl
        · rw [gi_wi, if_pos ⟨rfl, rfl⟩, sm_last, Int.zero_add, eo]
        · have ne : i ≠ x := fun q => by rw [q, itf] at ht; exact absurd ht (by decide)
          rw [gi_wi, if_neg (by omega), gi_wi, if_neg (by omega), gi_wi, if_neg (by omega), m2.1 239 _ (by unfold scrM; omega), m2.1 240 _ (by unfold scrM; omega), m2.1 241 _ (by unfold scrM; omega)]
          exact h2.2.2.2.2.2 i (by omega) ht
      · have xp : (x : Int) < nPe (hv B) := by
          have := sit_exi cs
          unfold exi at this
          rcases this with q | q
          · exact q.2
          · exfalso; apply ci; unfold itchF; rw [if_neg (by omega)]
        have itt : itB (hv B) x = true := by unfold itB; rw [decide_eq_true xp, decide_eq_true ci]; rfl
        have cx := cn_id (itB (hv B)) x
        have c69 := h2.2.2.2.1
        have tn : ((cn (itB (hv B)) x : Nat) : Int).toNat = cn (itB (hv B)) x := Int.toNat_natCast _
        obtain ⟨K, hK⟩ : ∃ K, K = cn (itB (hv B)) x := ⟨_, rfl⟩
        rw [← hK] at c69 tn cx
        have w1 : ∀ (C : AH) (a k : Nat) (v : Int), 239 ≤ a → a ≤ 241 → sc B C → sc B (wi C a k v) := fun C a k v q1 q2 q3 => sc_trans q3 ⟨fun b i q => by rw [gi_wi, if_neg (by unfold scr at q; omega)], fun _ _ _ => rfl, rfl⟩
        have s1 : sc B (wi A 239 K x) := w1 A 239 K x (by omega) (by omega) (LI_sc h2)
        obtain ⟨C, m1, m2⟩ := s_moves d x false (wi A 239 K x) (mok_sc s1 mB) nx1
        rw [bI_f, sc_hv s1, sc_nv s1, sc_q s1] at m1
        have s2 : sc B (wi C 240 K (movesF (hv B) (nv B) (nv B 0) (nv B 2) (gi B 190 65) x false)) := w1 C 240 K _ (by omega) (by omega) (sc_trans s1 (scm_sc m2))
        obtain ⟨D, k1, k2⟩ := s_moves d x true (wi C 240 K (movesF (hv B) (nv B) (nv B 0) (nv B 2) (gi B 190 65) x false)) (mok_sc s2 mB) nx1
        rw [bI_t, sc_hv s2, sc_nv s2, sc_q s2] at k1
        have a1 : gi (wi A 239 K x) 190 69 = K := by rw [gi_wi, if_neg (by omega)]; exact c69
        have a2 : gi (wi C 240 K (movesF (hv B) (nv B) (nv B 0) (nv B 2) (gi B 190 65) x false)) 190 69 = K := by rw [gi_wi, if_neg (by omega), m2.1 190 69 (by unfold scrM; omega)]; exact a1
        have a3 : gi (wi D 241 K (movesF (hv B) (nv B) (nv B 0) (nv B 2) (gi B 190 65) x true)) 190 69 = K := by rw [gi_wi, if_neg (by omega), k2.1 190 69 (by unfold scrM; omega)]; exact a2
        have gD : ∀ a i, ¬ scrM a i → ¬ (239 ≤ a ∧ a ≤ 240) → gi D a i = gi A a i := fun a i q1 q2 => by
          rw [k2.1 a i q1, gi_wi, if_neg (by omega), m2.1 a i q1, gi_wi, if_neg (by omega)]
        have gD9 : ∀ i, gi D 239 i = if i = K then (x : Int) else gi A 239 i := fun i => by
          rw [k2.1 239 i (by unfold scrM; omega), gi_wi, if_neg (by omega), m2.1 239 i (by unfold scrM; omega), gi_wi]
          by_cases q : i = K
          · rw [if_pos ⟨rfl, q⟩, if_pos q]
          · rw [if_neg (fun z => q z.2), if_neg q]
        have gD0 : ∀ i, gi D 240 i = if i = K then movesF (hv B) (nv B) (nv B 0) (nv B 2) (gi B 190 65) x false else gi A 240 i := fun i => by
          rw [k2.1 240 i (by unfold scrM; omega), gi_wi]
          by_cases q : i = K
          · rw [if_pos ⟨rfl, q⟩, if_pos q]
          · rw [if_neg (fun z => q z.2), if_neg q, m2.1 240 i (by unfold scrM; omega), gi_wi, if_neg (by omega)]
        rw [if_neg ci, c69, if_pos (by omega), tn, q_X12_laysItchers_65, m1, cI_v, a1, if_pos (by omega), tn, q_X12_laysItchers_80, k1, cI_v, a2, if_pos (by omega), tn, q_X12_laysItchers_95, a3, wid (by omega) (by omega)]
        refine nx (n + 13) _ (by omega) ⟨fun a i q => ?_, fun a i q => ?_, ?_, ?_, ?_, fun i hi ht => ?_⟩
        · rw [gi_wi, if_neg (by omega), gi_wi, if_neg (by omega), gD a i (fun z => q (Or.inl z)) (by omega)]; exact h2.1 a i q
        · rw [← h2.2.1 a i q]
          show gr D a i = _
          rw [k2.2.1 a i q]
          show gr C a i = _
          rw [m2.2.1 a i q]; rfl
        · rw [← h2.2.2.1]
          show D.2.2 = _
          rw [k2.2.2]
          show C.2.2 = _
          rw [m2.2.2]; rfl
        · rw [gi_wi, if_pos ⟨rfl, rfl⟩, cn, if_pos itt, ← hK]; omega
        · rw [gi_wi, if_neg (by omega), gi_wi, if_neg (by omega), gD 190 70 (by unfold scrM; omega) (by omega), h2.2.2.2.2.1, sm_last, Int.zero_add]
          unfold oth; rw [if_neg (fun q => by rw [Int.toNat_natCast, itt] at q; exact absurd q.2 (by decide)), Int.add_zero]
        · rw [gi_wi, if_neg (by omega), gi_wi, if_neg (by omega), gi_wi, if_neg (by omega), gi_wi, if_neg (by omega), gi_wi, if_neg (by omega), gi_wi, gD9, gD0]
          by_cases e : i = x
          · subst e
            rw [← hK, if_pos rfl, if_pos rfl, if_pos ⟨rfl, rfl⟩]
            exact ⟨rfl, rfl, rfl⟩
          · have := cn_lt ht (show i < x by omega)
            rw [if_neg (by omega), if_neg (by omega), if_neg (by omega), gD 241 _ (by unfold scrM; omega) (by omega)]
            exact h2.2.2.2.2.2 i (by omega) ht
    · have itf : itB (hv B) x = false := by
        cases q : itB (hv B) x
        · rfl
        · exfalso; apply cs
          have := itB_lt hc q
          unfold sit; rw [decide_eq_true (by omega)]; rfl
      rw [show sit (hv B) (nv B) x = false by simpa using cs, bI_f, if_pos rfl]
      refine nx (n + 18) A (by omega) ⟨h2.1, h2.2.1, h2.2.2.1, ?_, ?_, fun i hi ht => ?_⟩
      · rw [h2.2.2.2.1, cn, itf]; rfl
      · rw [h2.2.2.2.2.1, sm_last, Int.zero_add]
        unfold oth; rw [if_neg (fun q => cs q.1), Int.add_zero]
      · have ne : i ≠ x := fun q => by rw [q, itf] at ht; exact absurd ht (by decide)
        exact h2.2.2.2.2.2 i (by omega) ht
set_option maxRecDepth 100000 in
theorem s_laysI (d : Nat) (A : AH) (mA : mok A) : ∃ A', runF (d + 7) 231 [vR 21 190 0] A = some (none, A') ∧ LI A A' 16 := by
  obtain ⟨A', u1, u2⟩ := l_lays d A mA 16 (fu + 198) 0 (wi (wi A 190 69 0) 190 70 0) (by omega) ⟨fun a j q => by rw [gi_wi, if_neg (by omega), gi_wi, if_neg (by omega)], fun _ _ _ => rfl, rfl, by simp -implicitDefEqProofs (disch := omega) only [gi_wi, cn, ↓reduceIte, Int.reduceEq, cI_v, cL_v, cV_v, cR_v, wid, wid64, if_pos, if_neg, Nat.add_zero, if_true, if_false, and_self, and_true, true_and, and_false, false_and, or_true, true_or, or_false, false_or]; rfl, by simp -implicitDefEqProofs (disch := omega) only [gi_wi, sm, ↓reduceIte, Int.reduceEq, cI_v, cL_v, cV_v, cR_v, wid, wid64, if_pos, if_neg, Nat.add_zero, if_true, if_false, and_self, and_true, true_and, and_false, false_and, or_true, true_or, or_false, false_or], fun i hi => by omega⟩ (by have := fu_ge; omega)
  refine ⟨A', ?_, u2⟩
  rw [r_X12_laysItchers, q_X12_laysItchers_0, q_X12_laysItchers_10, Nat.add_zero (fu + 198)]
  exact u1
/-- what the k-th itcher adds -/
def gMv (A : AH) (s k : Int) : Int := if tb s k = true then gi A 241 k.toNat else gi A 240 k.toNat
def gWy (A : AH) (s k : Int) : Int := if tb s k = true then itchF (hv A) (gi A 239 k.toNat) else 100 - itchF (hv A) (gi A 239 k.toNat)
theorem LI_k {B A : AH} (mB : mok B) (h : LI B A 16) {k : Nat} (hk : k < cn (itB (hv B)) 16) : ∃ i : Nat, i < 8 ∧ itB (hv B) i = true ∧ cn (itB (hv B)) i = k ∧ gi A 239 k = i ∧ gi A 240 k = movesF (hv B) (nv B) (nv B 0) (nv B 2) (gi B 190 65) i false ∧ gi A 241 k = movesF (hv B) (nv B) (nv B 0) (nv B 2) (gi B 190 65) i true := by
  obtain ⟨i, i1, i2, i3⟩ := cn_sur (itB (hv B)) 16 k hk
  have := h.2.2.2.2.2 i i1 i2
  rw [i3] at this
  exact ⟨i, (itB_lt mB.1 i2).1, i2, i3, this⟩
theorem num_8 {i : Nat} (h : i < 8) : num (i : Int) := by unfold num; omega
set_option maxRecDepth 100000 in
theorem l_moved (d : Nat) (B A : AH) (mB : mok B) (h : LI B A 16) (s : Int) (s0 : 0 ≤ s) (s1 : s < 256) : ∀ (j n k : Nat) (v : Int), k + j = cn (itB (hv B)) 16 → -15984 - 999 * k ≤ v → v ≤ 15984 + 999 * k → 10 * j + 10 ≤ n → go true 0 (runF d) (runN d) pb_X12_movedBy n 7 [vR 21 190 0, vI s, vI v, vI k] [] A = some (some (vI (v + sm (gMv A s) j k)), A) := by
  have c8 := cn_id (itB (hv B)) 8
  rw [← cn_16 mB.1] at c8
  intro j
  induction j with
  | zero =>
    intro n k v h1 h2 h3 hn
    obtain ⟨n, rfl⟩ : ∃ e, n = e + 3 := ⟨n - 3, by omega⟩
    rw [q_X12_movedBy_7, h.2.2.2.1, if_neg (by omega), sm, Int.add_zero]
  | succ j ih =>
    intro n k v h1 h2 h3 hn
    obtain ⟨n, rfl⟩ : ∃ e, n = e + 10 := ⟨n - 10, by omega⟩
    obtain ⟨i, i1, i2, i3, i4, i5, i6⟩ := LI_k mB h (k := k) (by omega)
    have b0 := moves_bd mB.2.1 (nv B) (nv B 0) (nv B 2) (gi B 190 65) (num_8 i1) false
    have b1 := moves_bd mB.2.1 (nv B) (nv B 0) (nv B 2) (gi B 190 65) (num_8 i1) true
    rw [← i5] at b0
    rw [← i6] at b1
    have tk : ((k : Nat) : Int).toNat = k := Int.toNat_natCast k
    rw [q_X12_movedBy_7, h.2.2.2.1, if_pos (by omega), band_tb s0 (by omega) (by omega) (by omega), sm]
    have eg : gMv A s k = if tb s k = true then gi A 241 k else gi A 240 k := by unfold gMv; rw [tk]
    by_cases c : tb s k = true
    · rw [if_pos c] at eg
      rw [c, bI_t, if_pos rfl, if_pos (by omega), q_X12_movedBy_40, tk, wid (by omega) (by omega), wid (by omega) (by omega), eg, show (k : Int) + 1 = ((k + 1 : Nat) : Int) by omega, ih _ (k + 1) _ (by omega) (by omega) (by omega) (by omega), Int.add_assoc]
    · rw [if_neg c] at eg
      rw [show tb s k = false by simpa using c, bI_f, if_neg (by omega), if_pos (by omega), q_X12_movedBy_40, tk, wid (by omega) (by omega), wid (by omega) (by omega), eg, show (k : Int) + 1 = ((k + 1 : Nat) : Int) by omega, ih _ (k + 1) _ (by omega) (by omega) (by omega) (by omega), Int.add_assoc]
set_option maxRecDepth 100000 in
theorem s_moved (d : Nat) (B A : AH) (mB : mok B) (h : LI B A 16) (s : Int) (s0 : 0 ≤ s) (s1 : s < 256) : runF (d + 1) 232 [vR 21 190 0, vI s] A = some (some (vI (sm (oth (hv B) (nv B) (nv B 0) (nv B 2) (gi B 190 65)) 16 0 + sm (gMv A s) (cn (itB (hv B)) 16) 0)), A) := by
  have ob := fun i => oth_bd mB.1 mB.2.1 (nv B) (nv B 0) (nv B 2) (gi B 190 65) i
  have sb := sm_bd (f := oth (hv B) (nv B) (nv B 0) (nv B 2) (gi B 190 65)) 16 0 (fun i _ _ => ob i)
  have u := l_moved d B A mB h s s0 s1 (cn (itB (hv B)) 16) (fu + 199) 0 (gi A 190 70) (by omega) (by rw [h.2.2.2.2.1]; omega) (by rw [h.2.2.2.2.1]; omega) (by have := fu_ge; have := cn_id (itB (hv B)) 16; omega)
  rw [r_X12_movedBy, q_X12_movedBy_0, Nat.add_zero (fu + 199)]
  rw [h.2.2.2.2.1] at u
  rw [h.2.2.2.2.1]
  exact u
theorem mul_100 {v g : Int} {k : Nat} (h1 : 0 ≤ v) (h2 : v ≤ ((100 ^ k : Nat) : Int)) (g1 : 0 ≤ g) (g2 : g ≤ 100) : 0 ≤ v * g ∧ v * g ≤ ((100 ^ (k + 1) : Nat) : Int) := by
  refine ⟨Int.mul_nonneg h1 g1, ?_⟩
  rw [Nat.pow_succ, Int.natCast_mul]
  exact Int.mul_le_mul h2 g2 g1 (Int.natCast_nonneg _)
set_option maxRecDepth 100000 in
theorem l_ways (d : Nat) (B A : AH) (mB : mok B) (h : LI B A 16) (s : Int) (s0 : 0 ≤ s) (s1 : s < 256) : ∀ (j n k : Nat) (v : Int), k + j = cn (itB (hv B)) 16 → 0 ≤ v → v ≤ ((100 ^ k : Nat) : Int) → 10 * j + 10 ≤ n → go true 1 (runF (d + 2)) (runN (d + 2)) pb_X12_waysOf n 5 [vR 21 190 0, vI s, vL v, vS, vI k] [] A = some (some (vL (v * pm (gWy A s) j k)), A) := by
  have c8 := cn_id (itB (hv B)) 8
  rw [← cn_16 mB.1] at c8
  intro j
  induction j with
  | zero =>
    intro n k v h1 h2 h3 hn
    obtain ⟨n, rfl⟩ : ∃ e, n = e + 3 := ⟨n - 3, by omega⟩
    rw [q_X12_waysOf_5, h.2.2.2.1, if_neg (by omega), pm, Int.mul_one]
  | succ j ih =>
    intro n k v h1 h2 h3 hn
    obtain ⟨n, rfl⟩ : ∃ e, n = e + 10 := ⟨n - 10, by omega⟩
    obtain ⟨i, i1, i2, i3, i4, i5, i6⟩ := LI_k mB h (k := k) (by omega)
    have tk : ((k : Nat) : Int).toNat = k := Int.toNat_natCast k
    have ib := itch_bd mB.2.1 (num_8 i1)
    have p8 : 100 ^ (k + 1) ≤ 100 ^ 8 := Nat.pow_le_pow_right (by omega) (by omega)
    have eg : gWy A s k = if tb s k = true then itchF (hv B) i else 100 - itchF (hv B) i := by unfold gWy; rw [tk, i4, LI_hv h]
    rw [q_X12_waysOf_5, h.2.2.2.1, if_pos (by omega), band_tb s0 (by omega) (by omega) (by omega), pm]
    by_cases c : tb s k = true
    · have mb := mul_100 h2 h3 ib.1 ib.2
      rw [if_pos c] at eg
      rw [c, bI_t, if_pos rfl, if_pos (by omega), tk, i4, s_itchesOf _ _ A (num_8 i1), cI_v, LI_hv h, q_X12_waysOf_55, wid64 (by omega) (by omega), wid (by omega) (by omega), eg, show (k : Int) + 1 = ((k + 1 : Nat) : Int) by omega, ih _ (k + 1) _ (by omega) mb.1 mb.2 (by omega), Int.mul_assoc]
    · have mb := mul_100 (g := 100 - itchF (hv B) i) h2 h3 (by omega) (by omega)
      rw [if_neg c] at eg
      rw [show tb s k = false by simpa using c, bI_f, if_neg (by omega), if_pos (by omega), tk, i4, s_itchesOf _ _ A (num_8 i1), cI_v, LI_hv h, q_X12_waysOf_55, wid (x := 100 - itchF (hv B) i) (by omega) (by omega), wid64 (by omega) (by omega), wid (by omega) (by omega), eg, show (k : Int) + 1 = ((k + 1 : Nat) : Int) by omega, ih _ (k + 1) _ (by omega) mb.1 mb.2 (by omega), Int.mul_assoc]
set_option maxRecDepth 100000 in
theorem s_ways (d : Nat) (B A : AH) (mB : mok B) (h : LI B A 16) (s : Int) (s0 : 0 ≤ s) (s1 : s < 256) : runF (d + 3) 233 [vR 21 190 0, vI s] A = some (some (vL (pm (gWy A s) (cn (itB (hv B)) 16) 0)), A) := by
  have u := l_ways d B A mB h s s0 s1 (cn (itB (hv B)) 16) (fu + 199) 0 1 (by omega) (by omega) (by omega) (by have := fu_ge; have := cn_id (itB (hv B)) 16; omega)
  rw [r_X12_waysOf, q_X12_waysOf_0, Nat.add_zero (fu + 199)]
  rw [Int.one_mul] at u
  exact u
set_option maxRecDepth 100000 in
theorem l_people (d : Nat) (B A : AH) (mB : mok B) (h : LI B A 16) (s : Nat) (s1 : s < 256) : ∀ (j n k v : Nat), k + j = cn (itB (hv B)) 16 → v < 256 → (∀ i, v.testBit i = (itB (hv B) i && s.testBit (cn (itB (hv B)) i) && decide (cn (itB (hv B)) i < k))) → 10 * j + 10 ≤ n → ∃ V : Nat, go true 0 (runF d) (runN d) pb_X12_peopleIn n 4 [vR 21 190 0, vI s, vI v, vI k] [] A = some (some (vI V), A) ∧ V < 256 ∧ ∀ i, V.testBit i = (itB (hv B) i && s.testBit (cn (itB (hv B)) i) && decide (cn (itB (hv B)) i < cn (itB (hv B)) 16)) := by
  have c8 := cn_id (itB (hv B)) 8
  rw [← cn_16 mB.1] at c8
  intro j
  induction j with
  | zero =>
    intro n k v h1 h2 h3 hn
    obtain ⟨n, rfl⟩ : ∃ e, n = e + 3 := ⟨n - 3, by omega⟩
    refine ⟨v, ?_, h2, fun i => by rw [h3 i, show k = cn (itB (hv B)) 16 by omega]⟩
    rw [q_X12_peopleIn_4, h.2.2.2.1, if_neg (by omega)]
  | succ j ih =>
    intro n k v h1 h2 h3 hn
    obtain ⟨n, rfl⟩ : ∃ e, n = e + 10 := ⟨n - 10, by omega⟩
    obtain ⟨i, i1, i2, i3, i4, i5, i6⟩ := LI_k mB h (k := k) (by omega)
    have tk : ((k : Nat) : Int).toNat = k := Int.toNat_natCast k
    have uq : ∀ q, itB (hv B) q = true → cn (itB (hv B)) q = k → q = i := by
      intro q q1 q2
      rcases Nat.lt_trichotomy q i with z | z | z
      · have := cn_lt q1 z; omega
      · exact z
      · have := cn_lt i2 z; omega
    have eb : tb s k = s.testBit k := by unfold tb; rw [Int.toNat_natCast, Int.toNat_natCast]
    rw [q_X12_peopleIn_4, h.2.2.2.1, if_pos (by omega), band_tb (by omega) (by omega) (by omega) (by omega), eb]
    by_cases c : s.testBit k = true
    · have pb : 2 ^ i < 2 ^ 8 := Nat.pow_lt_pow_right (by omega) i1
      have eo : bor (v : Int) (bshl 1 i) = ((v ||| 2 ^ i : Nat) : Int) := by
        rw [bshl_1 (by omega) (by omega), Int.toNat_natCast, bor_n (by omega) (by omega) (Int.natCast_nonneg _) (by omega), Int.toNat_natCast, Int.toNat_natCast]
      obtain ⟨V, u1, u2⟩ := ih (n + 8) (k + 1) (v ||| 2 ^ i) (by omega) (Nat.or_lt_two_pow (n := 8) (by omega) (by omega)) (fun q => by
        rw [Nat.testBit_or, h3 q, Nat.testBit_two_pow]
        by_cases e : q = i
        · subst e
          rw [i2, i3, c, decide_eq_true (p := q = q) rfl, decide_eq_true (p := k < k + 1) (by omega)]; simp
        · rw [decide_eq_false (p := i = q) (fun z => e z.symm), Bool.or_false]
          by_cases ti : itB (hv B) q = true
          · have ne : cn (itB (hv B)) q ≠ k := fun z => e (uq q ti z)
            have : decide (cn (itB (hv B)) q < k) = decide (cn (itB (hv B)) q < k + 1) := by rw [decide_eq_decide]; omega
            rw [this]
          · simp [ti]) (by omega)
      refine ⟨V, ?_, u2⟩
      rw [c, bI_t, if_pos rfl, if_pos (by omega), tk, i4, eo, q_X12_peopleIn_32, wid (by omega) (by omega), show (k : Int) + 1 = ((k + 1 : Nat) : Int) by omega, Nat.add_zero (n + 8)]
      exact u1
    · obtain ⟨V, u1, u2⟩ := ih (n + 8) (k + 1) v (by omega) h2 (fun q => by
        rw [h3 q]
        by_cases ti : itB (hv B) q = true
        · by_cases e : cn (itB (hv B)) q = k
          · rw [e]; simp [c]
          · have : decide (cn (itB (hv B)) q < k) = decide (cn (itB (hv B)) q < k + 1) := by rw [decide_eq_decide]; omega
            rw [this]
        · simp [ti]) (by omega)
      refine ⟨V, ?_, u2⟩
      rw [show s.testBit k = false by simpa using c, bI_f, if_neg (by omega), q_X12_peopleIn_32, wid (by omega) (by omega), show (k : Int) + 1 = ((k + 1 : Nat) : Int) by omega, Nat.add_zero (n + 8)]
      exact u1
