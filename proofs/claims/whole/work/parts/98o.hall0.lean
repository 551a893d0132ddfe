/-! the text of a hall: a new hall of the class's, names found, what is told -/
def hallInit (a : Nat) (A : AH) : AH :=
  let B := wi (wi (wi (wi (wi (wi (wi A a 0 0) a 1 0) a 2 0) a 3 0) a 4 0) a 5 0) a 6 0
  let B1 := wr (nw B 20 20) a 7 (sz B)
  let B2 := wr (nw B1 20 16) a 8 (sz B1)
  let B3 := wr (nw B2 20 16) a 9 (sz B2)
  let B4 := wr (nw B3 20 8) a 10 (sz B3)
  let B5 := wr (nw B4 20 8) a 11 (sz B4)
  let B6 := wr (nw B5 20 6) a 12 (sz B5)
  let B7 := wr (nw B6 20 8) a 13 (sz B6)
  let B8 := wr (nw B7 20 18) a 14 (sz B7)
  let B9 := wr (nw B8 20 16) a 15 (sz B8)
  wi (wr (wr B9 a 16 0) a 17 0) a 18 0
set_option maxRecDepth 100000 in
theorem hallNew (d a : Nat) (A : AH) (ha : a ≠ 0) : runN (d + 1) 42 [vR 13 a 0] A = some (none, hallInit a A) := by
  obtain ⟨a, rfl⟩ := Nat.exists_eq_succ_of_ne_zero ha
  have e : runN (d + 1) 42 [vR 13 (a + 1) 0] A = go false 3 (run d) (run d) pb_X3_init (fu + 200) 0 [vR 13 (a + 1) 0] [] A := by
    rw [fu_2]; rfl
  rw [e]
  rfl
def ZB (A B : AH) (m s : Nat) : Prop := sz B = sz A + m ∧ sl B = sl A + s ∧ (∀ a j, a < sz A → gi B a j = gi A a j ∧ gr B a j = gr A a j) ∧ (∀ a, a < sz A → ln B a = ln A a) ∧ (∀ a j, sz A ≤ a → a < sz A + m → gi B a j = 0)
theorem ZB_nw {A B : AH} {m s : Nat} (k n : Nat) (z : ZB A B m s) : ZB A (nw B k n) (m + 1) (s + n) := by
  obtain ⟨z1, z2, z3, z4, z5⟩ := z
  refine ⟨by rw [sz_nw]; omega, by rw [sl_nw]; omega, fun a j ha => ⟨by rw [gi_nw, if_neg (by omega)]; exact (z3 a j ha).1, by rw [gr_nw, if_neg (by omega)]; exact (z3 a j ha).2⟩, fun a ha => by rw [ln_nw, if_neg (by omega)]; exact z4 a ha, fun a j h1 h2 => ?_⟩
  rw [gi_nw]
  by_cases c : a = sz B
  · rw [if_pos c]
  · rw [if_neg c]; exact z5 a j h1 (by omega)
theorem ZB_wi {A B : AH} {m s : Nat} (a k : Nat) (ha : sz A ≤ a) (z : ZB A B m s) : ZB A (wi B a k 0) m s := by
  obtain ⟨z1, z2, z3, z4, z5⟩ := z
  refine ⟨by rw [sz_wi]; omega, by rw [sl_wi]; omega, fun b j hb => ⟨by rw [gi_wi, if_neg (by omega)]; exact (z3 b j hb).1, by rw [gr_wi]; exact (z3 b j hb).2⟩, fun b hb => by rw [ln_wi]; exact z4 b hb, fun b j h1 h2 => ?_⟩
  rw [gi_wi]
  by_cases c : b = a ∧ j = k
  · rw [if_pos c]
  · rw [if_neg c]; exact z5 b j h1 h2
theorem ZB_wr {A B : AH} {m s : Nat} (a k v : Nat) (ha : sz A ≤ a) (z : ZB A B m s) : ZB A (wr B a k v) m s := by
  obtain ⟨z1, z2, z3, z4, z5⟩ := z
  exact ⟨by rw [sz_wr]; omega, by rw [sl_wr]; omega, fun b j hb => ⟨by rw [gi_wr]; exact (z3 b j hb).1, by rw [gr_wr, if_neg (by omega)]; exact (z3 b j hb).2⟩, fun b hb => by rw [ln_wr]; exact z4 b hb, fun b j h1 h2 => by rw [gi_wr]; exact z5 b j h1 h2⟩
theorem hallNew_sp (A : AH) : ZB A (hallInit (sz A) (nw A 3 19)) 10 135 ∧ gr (hallInit (sz A) (nw A 3 19)) (sz A) 16 = 0 ∧ gr (hallInit (sz A) (nw A 3 19)) (sz A) 17 = 0 := by
  have q := Nat.le_refl (sz A)
  have z0 : ZB A A 0 0 := ⟨rfl, rfl, fun _ _ _ => ⟨rfl, rfl⟩, fun _ _ => rfl, fun a j h1 h2 => by omega⟩
  have z1 := ZB_wi (sz A) 6 q (ZB_wi (sz A) 5 q (ZB_wi (sz A) 4 q (ZB_wi (sz A) 3 q (ZB_wi (sz A) 2 q (ZB_wi (sz A) 1 q (ZB_wi (sz A) 0 q (ZB_nw 3 19 z0)))))))
  refine ⟨?_, ?_, ?_⟩
  · unfold hallInit
    dsimp only
    exact ZB_wi (sz A) 18 q (ZB_wr (sz A) 17 0 q (ZB_wr (sz A) 16 0 q (ZB_wr (sz A) 15 _ q (ZB_nw 20 16 (ZB_wr (sz A) 14 _ q (ZB_nw 20 18 (ZB_wr (sz A) 13 _ q (ZB_nw 20 8 (ZB_wr (sz A) 12 _ q (ZB_nw 20 6 (ZB_wr (sz A) 11 _ q (ZB_nw 20 8 (ZB_wr (sz A) 10 _ q (ZB_nw 20 8 (ZB_wr (sz A) 9 _ q (ZB_nw 20 16 (ZB_wr (sz A) 8 _ q (ZB_nw 20 16 (ZB_wr (sz A) 7 _ q (ZB_nw 20 20 (z1)))))))))))))))))))))
  · unfold hallInit
    simp only []
    rw [gr_wi, gr_wr, if_neg (by omega), gr_wr, if_pos ⟨rfl, rfl⟩]
  · unfold hallInit
    simp only []
    rw [gr_wi, gr_wr, if_pos ⟨rfl, rfl⟩]
/-- valid names -/
def vnm (v : Int) : Prop := ∃ (f : Nat → Int) (n : Nat), 1 ≤ n ∧ n ≤ 6 ∧ (∀ i, i < n → 1 ≤ f i ∧ f i ≤ 26) ∧ (∀ i, n ≤ i → f i = 0) ∧ v = hz f n ∧ padN v = hz f 6
theorem vnm_name {T : Nat → Int} {L p : Nat} {t : Bool} (h : knd T L p t = 1) (h6 : ¬ 6 < stp T L p - bl T L p) : vnm (nameV T L p) := by
  have k := key_pad h h6
  have c1 := (knd1 h).1
  have es : stp T L p = rn lP T L (bl T L p) := by unfold stp; rw [if_pos c1]
  have lt : bl T L p < stp T L p := by
    rw [es]; exact rn_pos (lP_s c1).1 (by rw [← (lP_s c1).2]; exact c1)
  refine ⟨dg T (bl T L p) (stp T L p - bl T L p), stp T L p - bl T L p, by omega, by omega, fun i hi => ?_, fun i hi => ?_, rfl, k.1.symm⟩
  · have := lP_t.mp (rn_in (P := lP) (T := T) (L := L) (s := bl T L p) (bl T L p + i) (by omega) (by omega))
    unfold dg; rw [if_pos hi]; omega
  · unfold dg; rw [if_neg (by omega)]
theorem vnm_inj {v w : Int} (hv : vnm v) (hw : vnm w) (h : padN v = padN w) : v = w := by
  obtain ⟨f, n, f1, f2, f3, f4, f5, f6⟩ := hv
  obtain ⟨g, m, g1, g2, g3, g4, g5, g6⟩ := hw
  have bf : ∀ i, 0 ≤ f i ∧ f i ≤ 26 := fun i => by
    by_cases c : i < n
    · have := f3 i c; omega
    · rw [f4 i (by omega)]; omega
  have bg : ∀ i, 0 ≤ g i ∧ g i ≤ 26 := fun i => by
    by_cases c : i < m
    · have := g3 i c; omega
    · rw [g4 i (by omega)]; omega
  have e := hz_inj bf bg 6 (by rw [← f6, ← g6]; exact h)
  have enm : n = m := by
    rcases Nat.lt_trichotomy n m with c | c | c
    · have := e n (by omega)
      rw [f4 n (by omega)] at this
      have := g3 n c
      omega
    · exact c
    · have := e m (by omega)
      rw [g4 m (by omega)] at this
      have := f3 m c
      omega
  rw [f5, g5, ← enm]
  exact hz_congr n (fun i hi => e i (by omega))
theorem vnm_pos {v : Int} (hv : vnm v) : 0 < padN v := by
  obtain ⟨f, n, f1, f2, f3, f4, f5, f6⟩ := hv
  rw [f6]
  have h0 := f3 0 (by omega)
  have b : ∀ i, 0 ≤ f i ∧ f i ≤ 26 := fun i => by
    by_cases c : i < n
    · have := f3 i c; omega
    · rw [f4 i (by omega)]; omega
  have e1 : hz f 1 = hz f 0 * 27 + f 0 := rfl
  have e0 : hz f 0 = 0 := rfl
  have e2 : hz f 2 = hz f 1 * 27 + f 1 := rfl
  have e3 : hz f 3 = hz f 2 * 27 + f 2 := rfl
  have e4 : hz f 4 = hz f 3 * 27 + f 3 := rfl
  have e5 : hz f 5 = hz f 4 * 27 + f 4 := rfl
  have e6 : hz f 6 = hz f 5 * 27 + f 5 := rfl
  have := b 1
  have := b 2
  have := b 3
  have := b 4
  have := b 5
  omega
def uH (H : Nat → Nat → Int) (a j : Nat) (v : Int) : Nat → Nat → Int := fun a' j' => if a' = a ∧ j' = j then v else H a' j'
theorem uH_at (H : Nat → Nat → Int) (a j : Nat) (v : Int) (a' j' : Nat) : uH H a j v a' j' = if a' = a ∧ j' = j then v else H a' j' := rfl
def fnP (H : Nat → Nat → Int) (v : Int) : Int := ff (fun k => decide (H 225 (24 + k).toNat = v)) (nPe H).toNat 0
def fnM (H : Nat → Nat → Int) (v : Int) : Int := ff (fun k => decide (H 225 (32 + k).toNat = v)) (nMu H).toNat 0
def fnO (H : Nat → Nat → Int) (v : Int) : Int := ff (fun k => decide (H 225 (40 + k).toNat = v)) (nPo H).toNat 0
def fnd (H : Nat → Nat → Int) (v : Int) : Int := if fnP H v ≠ -1 then fnP H v else if fnM H v ≠ -1 then 10 + fnM H v else if fnO H v ≠ -1 then 16 + fnO H v else -1
/-- names told are valid; where none is told the class has 0 -/
def NM (A : AH) (h : Nat) (H : Nat → Nat → Int) : Prop := (∀ k : Int, 0 ≤ k → k < nPe H → vnm (H 225 (24 + k).toNat)) ∧ (∀ k : Int, 0 ≤ k → k < nMu H → vnm (H 225 (32 + k).toNat)) ∧ (∀ k : Int, 0 ≤ k → k < nPo H → vnm (H 225 (40 + k).toNat)) ∧ (∀ j : Int, 0 ≤ j → j < 20 → ¬ (j < nPe H) → ¬ (10 ≤ j ∧ j < 10 + nMu H) → ¬ (16 ≤ j ∧ j < 16 + nPo H) → gi A (h + 1) j.toNat = 0)
theorem ff_app {p : Int → Bool} : ∀ (a b : Nat) (k : Int), 0 ≤ k → ff p (a + b) k = if ff p a k ≠ -1 then ff p a k else ff p b (k + a)
  | 0, b, k, hk => by
    rw [Nat.zero_add]
    show ff p b k = if (-1 : Int) ≠ -1 then -1 else ff p b (k + 0)
    rw [if_neg (by omega), Int.add_zero]
  | a + 1, b, k, hk => by
    rw [show a + 1 + b = (a + b) + 1 by omega]
    show (if p k = true then k else ff p (a + b) (k + 1)) = if (if p k = true then k else ff p a (k + 1)) ≠ -1 then (if p k = true then k else ff p a (k + 1)) else ff p b (k + ((a + 1 : Nat) : Int))
    by_cases c : p k = true
    · rw [if_pos c, if_pos c, if_pos (by omega)]
    · rw [if_neg c, if_neg c, ff_app a b (k + 1) (by omega), show k + 1 + (a : Int) = k + ((a + 1 : Nat) : Int) by omega]
theorem ff_none' {p : Int → Bool} (n : Nat) (k : Int) (hk : 0 ≤ k) (h : ∀ j, k ≤ j → j < k + n → p j = false) : ff p n k = -1 := (ff_none n k hk).mpr h
theorem ff_sh {p q : Int → Bool} (s : Int) : ∀ (n : Nat) (k : Int), 0 ≤ k → 0 ≤ s → (∀ j, k ≤ j → j < k + n → q (s + j) = p j) → ff q n (s + k) = if ff p n k = -1 then -1 else s + ff p n k
  | 0, k, _, _, _ => by
    show (-1 : Int) = if (-1 : Int) = -1 then -1 else s + -1
    rw [if_pos rfl]
  | n + 1, k, hk, hs, h => by
    show (if q (s + k) = true then s + k else ff q n (s + k + 1)) = if (if p k = true then k else ff p n (k + 1)) = -1 then -1 else s + (if p k = true then k else ff p n (k + 1))
    rw [h k (by omega) (by omega)]
    by_cases c : p k = true
    · rw [if_pos c, if_pos c, if_neg (by omega)]
    · rw [if_neg c, if_neg c, show s + k + 1 = s + (k + 1) by omega]
      exact ff_sh s n (k + 1) (by omega) hs (fun j h1 h2 => h j (by omega) (by omega))
/-- a part of the rows: told ones first, then zeroes -/
theorem ff_seg {A : AH} {h : Nat} {key : Int} (s : Int) (n m : Nat) (nm : Int → Int) (v : Int) (hs : 0 ≤ s) (hnm : n ≤ m) (hk : key = padN v) (hv : vnm v) (h1 : ∀ k : Int, 0 ≤ k → k < n → gi A (h + 1) (s + k).toNat = padN (nm k) ∧ vnm (nm k)) (h0 : ∀ k : Int, n ≤ k → k < m → gi A (h + 1) (s + k).toNat = 0) : ff (fun j => decide (gi A (h + 1) j.toNat = key)) m s = if ff (fun k => decide (nm k = v)) n 0 = -1 then -1 else s + ff (fun k => decide (nm k = v)) n 0 := by
  have pos := vnm_pos hv
  have e := ff_sh (p := fun k => decide (nm k = v)) (q := fun j => decide (gi A (h + 1) j.toNat = key)) s n 0 (by omega) hs (fun j q1 q2 => by
    have := h1 j q1 (by omega)
    show decide (gi A (h + 1) (s + j).toNat = key) = decide (nm j = v)
    rw [this.1, hk]
    by_cases c : nm j = v
    · rw [decide_eq_true c, decide_eq_true (by rw [c])]
    · rw [decide_eq_false c, decide_eq_false (fun y => c (vnm_inj this.2 hv y))])
  rw [Int.add_zero] at e
  rw [show m = n + (m - n) by omega, ff_app n (m - n) s hs, e]
  have z : ff (fun j => decide (gi A (h + 1) j.toNat = key)) (m - n) (s + n) = -1 := ff_none' _ _ (by omega) (fun j q1 q2 => by
    have := h0 (j - s) (by omega) (by omega)
    rw [show s + (j - s) = j by omega] at this
    exact decide_eq_false (by rw [this, hk]; omega))
  rw [z]
  by_cases c : ff (fun k => decide (nm k = v)) n 0 = -1
  · rw [if_pos c, if_neg (by omega)]
  · rw [if_neg c, if_pos]
    have := ff_rng (p := fun k => decide (nm k = v)) n 0
    omega
set_option maxRecDepth 100000 in
theorem l_find (d h : Nat) (key : Int) (A : AH) (hh : h ≠ 0) : ∀ (j n : Nat) (k : Int), 0 ≤ k → k + j = 20 → 3 * j + 10 ≤ n → go true 0 (runF d) (runN d) pb_X3_find n 2 [vR 13 h 0, vI key, vI k] [] A = some (some (vI (ff (fun j => decide (gi A (h + 1) j.toNat = key)) j k)), A) := by
  intro j
  induction j with
  | zero =>
    intro n k h1 h2 hn
    obtain ⟨n, rfl⟩ : ∃ e, n = e + 10 := ⟨n - 10, by omega⟩
    rw [q_X3_find_2 (ha0 := hh), if_neg (by omega)]; rfl
  | succ j ih =>
    intro n k h1 h2 hn
    obtain ⟨n, rfl⟩ : ∃ e, n = e + 10 := ⟨n - 10, by omega⟩
    rw [q_X3_find_2 (ha0 := hh), if_pos (by omega), if_pos (by omega)]
    show _ = some (some (vI (if decide (gi A (h + 1) k.toNat = key) = true then k else ff (fun j => decide (gi A (h + 1) j.toNat = key)) j (k + 1))), A)
    by_cases c : gi A (h + 1) k.toNat = key
    · rw [if_pos c, decide_eq_true c, if_pos rfl]
    · rw [if_neg c, decide_eq_false c, if_neg (by decide), wid (by omega) (by omega), Nat.add_zero (n + 8)]
      exact ih (n + 8) (k + 1) (by omega) (by omega) (by omega)
set_option maxRecDepth 100000 in
theorem s_find (d h : Nat) (v : Int) (A : AH) {H : Nat → Nat → Int} (hc : cok H) (b : HR A h H) (nm : NM A h H) (hv : vnm v) : runF (d + 1) 47 [vR 13 h 0, vI (padN v)] A = some (some (vI (fnd H v)), A) := by
  have hh : h ≠ 0 := by have := b.1; omega
  unfold cok at hc
  obtain ⟨n1, n2, n3, n4⟩ := nm
  obtain ⟨_, _, _, _, _, _, _, _, _, b1, b2, b3, _⟩ := b
  rw [r_X3_find, q_X3_find_0 (ha0 := hh), Nat.add_zero (fu + 199), l_find d h (padN v) A hh 20 (fu + 199) 0 (by omega) (by omega) (by have := fu_ge; omega)]
  have z1 := ff_seg (A := A) (h := h) (key := padN v) 0 (nPe H).toNat 10 (fun k => H 225 (24 + k).toNat) v (by omega) (by omega) rfl hv (fun k q1 q2 => ⟨by rw [Int.zero_add]; exact b1 k q1 (by omega), n1 k q1 (by omega)⟩) (fun k q1 q2 => by rw [Int.zero_add]; exact n4 k (by omega) (by omega) (by omega) (by omega) (by omega))
  have z2 := ff_seg (A := A) (h := h) (key := padN v) 10 (nMu H).toNat 6 (fun k => H 225 (32 + k).toNat) v (by omega) (by omega) rfl hv (fun k q1 q2 => ⟨b2 k q1 (by omega), n2 k q1 (by omega)⟩) (fun k q1 q2 => n4 (10 + k) (by omega) (by omega) (by omega) (by omega) (by omega))
  have z3 := ff_seg (A := A) (h := h) (key := padN v) 16 (nPo H).toNat 4 (fun k => H 225 (40 + k).toNat) v (by omega) (by omega) rfl hv (fun k q1 q2 => ⟨b3 k q1 (by omega), n3 k q1 (by omega)⟩) (fun k q1 q2 => n4 (16 + k) (by omega) (by omega) (by omega) (by omega) (by omega))
  have a1 := ff_app (p := fun j => decide (gi A (h + 1) j.toNat = padN v)) 10 10 0 (by omega)
  have a2 := ff_app (p := fun j => decide (gi A (h + 1) j.toNat = padN v)) 6 4 10 (by omega)
  have e2 : ff (fun j => decide (gi A (h + 1) j.toNat = padN v)) 10 (0 + ((10 : Nat) : Int)) = ff (fun j => decide (gi A (h + 1) j.toNat = padN v)) (6 + 4) 10 := rfl
  have e3 : ff (fun j => decide (gi A (h + 1) j.toNat = padN v)) 4 (10 + ((6 : Nat) : Int)) = ff (fun j => decide (gi A (h + 1) j.toNat = padN v)) 4 16 := rfl
  refine congrArg (fun z => some (some (vI z), A)) ?_
  rw [show (20 : Nat) = 10 + 10 from rfl, a1, z1, e2, a2, z2, e3, z3]
  have r1 := ff_rng (p := fun k => decide (H 225 (24 + k).toNat = v)) (nPe H).toNat 0
  have r2 := ff_rng (p := fun k => decide (H 225 (32 + k).toNat = v)) (nMu H).toNat 0
  have r3 := ff_rng (p := fun k => decide (H 225 (40 + k).toNat = v)) (nPo H).toNat 0
  unfold fnd fnP fnM fnO
  generalize ff (fun k => decide (H 225 (24 + k).toNat = v)) (nPe H).toNat 0 = y1 at *
  generalize ff (fun k => decide (H 225 (32 + k).toNat = v)) (nMu H).toNat 0 = y2 at *
  generalize ff (fun k => decide (H 225 (40 + k).toNat = v)) (nPo H).toNat 0 = y3 at *
  by_cases c1 : y1 = -1
  · rw [if_pos c1, if_neg (by omega), if_neg (c := y1 ≠ -1) (by omega)]
    by_cases c2 : y2 = -1
    · rw [if_pos c2, if_neg (by omega), if_neg (c := y2 ≠ -1) (by omega)]
      by_cases c3 : y3 = -1
      · rw [if_pos c3, if_neg (by omega)]
      · rw [if_neg c3, if_pos (by omega)]
    · rw [if_neg c2, if_pos (by omega), if_pos (c := y2 ≠ -1) (by omega)]
  · rw [if_neg c1, if_pos (by omega), if_pos (c := y1 ≠ -1) (by omega)]
    omega
