/-! texts: runs of bytes, words, numbers -/
def rnE (P : Int → Bool) (T : Nat → Int) : Nat → Nat → Nat
  | 0, s => s
  | j + 1, s => if P (T s) = true then rnE P T j (s + 1) else s
def rn (P : Int → Bool) (T : Nat → Int) (L s : Nat) : Nat := rnE P T (L - s) s
theorem rn_ge {P : Int → Bool} {T : Nat → Int} {L s : Nat} (h : L ≤ s) : rn P T L s = s := by
  unfold rn; rw [show L - s = 0 by omega]; rfl
theorem rn_y {P : Int → Bool} {T : Nat → Int} {L s : Nat} (h : s < L) (hp : P (T s) = true) : rn P T L s = rn P T L (s + 1) := by
  unfold rn; rw [show L - s = (L - (s + 1)) + 1 by omega]
  show (if P (T s) = true then rnE P T (L - (s + 1)) (s + 1) else s) = _
  rw [if_pos hp]
theorem rn_n {P : Int → Bool} {T : Nat → Int} {L s : Nat} (hp : P (T s) = false) : rn P T L s = s := by
  by_cases h : s < L
  · unfold rn; rw [show L - s = (L - (s + 1)) + 1 by omega]
    show (if P (T s) = true then rnE P T (L - (s + 1)) (s + 1) else s) = _
    rw [if_neg (by rw [hp]; decide)]
  · exact rn_ge (by omega)
theorem rnE_sp {P : Int → Bool} {T : Nat → Int} : ∀ (j s : Nat), s ≤ rnE P T j s ∧ rnE P T j s ≤ s + j ∧ (∀ i, s ≤ i → i < rnE P T j s → P (T i) = true) ∧ (rnE P T j s < s + j → P (T (rnE P T j s)) = false)
  | 0, s => ⟨Nat.le_refl _, Nat.le_refl _, fun i h1 h2 => by have : rnE P T 0 s = s := rfl; omega, fun h => by have : rnE P T 0 s = s := rfl; omega⟩
  | j + 1, s => by
    show s ≤ (if P (T s) = true then rnE P T j (s + 1) else s) ∧ (if P (T s) = true then rnE P T j (s + 1) else s) ≤ s + (j + 1) ∧ (∀ i, s ≤ i → i < (if P (T s) = true then rnE P T j (s + 1) else s) → P (T i) = true) ∧ ((if P (T s) = true then rnE P T j (s + 1) else s) < s + (j + 1) → P (T (if P (T s) = true then rnE P T j (s + 1) else s)) = false)
    by_cases h : P (T s) = true
    · rw [if_pos h]
      obtain ⟨a, b, c, e⟩ := rnE_sp (P := P) (T := T) j (s + 1)
      refine ⟨by omega, by omega, fun i h1 h2 => ?_, fun q => e (by omega)⟩
      by_cases hi : i = s
      · rw [hi]; exact h
      · exact c i (by omega) h2
    · rw [if_neg h]
      exact ⟨by omega, by omega, fun i h1 h2 => by omega, fun _ => by simpa using h⟩
theorem rn_le (P : Int → Bool) (T : Nat → Int) (L s : Nat) : s ≤ rn P T L s := (rnE_sp (L - s) s).1
theorem rn_L {P : Int → Bool} {T : Nat → Int} {L s : Nat} (h : s ≤ L) : rn P T L s ≤ L := by
  have := (rnE_sp (P := P) (T := T) (L - s) s).2.1
  unfold rn; omega
theorem rn_in {P : Int → Bool} {T : Nat → Int} {L s : Nat} (i : Nat) (h1 : s ≤ i) (h2 : i < rn P T L s) : P (T i) = true := (rnE_sp (L - s) s).2.2.1 i h1 h2
theorem rn_end {P : Int → Bool} {T : Nat → Int} {L s : Nat} (h1 : s ≤ L) (h : rn P T L s < L) : P (T (rn P T L s)) = false := (rnE_sp (L - s) s).2.2.2 (by unfold rn at h; omega)
theorem rn_idem {P : Int → Bool} {T : Nat → Int} {L s i : Nat} (h1 : s ≤ i) (h2 : i ≤ rn P T L s) (hL : s ≤ L) : rn P T L i = rn P T L s := by
  obtain ⟨k, rfl⟩ : ∃ k, i = s + k := ⟨i - s, by omega⟩
  clear h1
  induction k with
  | zero => rfl
  | succ k ih =>
    have e := ih (by omega)
    have lt : s + k < rn P T L s := by omega
    have hL2 := rn_L (P := P) (T := T) hL
    rw [← e, show s + (k + 1) = (s + k) + 1 by omega]
    exact (rn_y (by omega) (rn_in _ (by omega) lt)).symm
def bP (x : Int) : Bool := decide (x = 32 ∨ x = 10)
def lP (x : Int) : Bool := decide (97 ≤ x ∧ x ≤ 122)
def dP (x : Int) : Bool := decide (48 ≤ x ∧ x ≤ 57)
theorem bP_t {x : Int} : bP x = true ↔ x = 32 ∨ x = 10 := by unfold bP; simp
theorem lP_t {x : Int} : lP x = true ↔ 97 ≤ x ∧ x ≤ 122 := by unfold lP; simp
theorem dP_t {x : Int} : dP x = true ↔ 48 ≤ x ∧ x ≤ 57 := by unfold dP; simp
theorem bP_f {x : Int} : bP x = false ↔ ¬ (x = 32 ∨ x = 10) := by unfold bP; simp
theorem lP_f {x : Int} : lP x = false ↔ ¬ (97 ≤ x ∧ x ≤ 122) := by unfold lP; simp
theorem dP_f {x : Int} : dP x = false ↔ ¬ (48 ≤ x ∧ x ≤ 57) := by unfold dP; simp
def ch (T : Nat → Int) (L s : Nat) : Int := if s < L then T s else -1
/-- digits of base 27, of base 10 -/
def hz (f : Nat → Int) : Nat → Int
  | 0 => 0
  | n + 1 => hz f n * 27 + f n
def dg (T : Nat → Int) (s n i : Nat) : Int := if i < n then T (s + i) - 96 else 0
def vz (T : Nat → Int) (s : Nat) : Nat → Int
  | 0 => 0
  | n + 1 => vz T s n * 10 + (T (s + n) - 48)
theorem hz_bd {f : Nat → Int} (h : ∀ i, 0 ≤ f i ∧ f i ≤ 26) : ∀ n : Nat, n ≤ 6 → 0 ≤ hz f n ∧ hz f n < 27 ^ n
  | 0, _ => by show (0 : Int) ≤ 0 ∧ (0 : Int) < 1; omega
  | n + 1, hn => by
    have ih := hz_bd h n (by omega)
    have := h n
    show 0 ≤ hz f n * 27 + f n ∧ hz f n * 27 + f n < 27 ^ (n + 1)
    rw [Int.pow_succ]
    omega
theorem hz_inj {f g : Nat → Int} (hf : ∀ i, 0 ≤ f i ∧ f i ≤ 26) (hg : ∀ i, 0 ≤ g i ∧ g i ≤ 26) : ∀ n : Nat, hz f n = hz g n → ∀ i, i < n → f i = g i
  | 0, _, i, hi => by omega
  | n + 1, e, i, hi => by
    have e' : hz f n * 27 + f n = hz g n * 27 + g n := e
    have h1 := hf n
    have h2 := hg n
    by_cases c : i = n
    · rw [c]; omega
    · exact hz_inj hf hg n (by omega) i (by omega)
theorem hz_congr {f g : Nat → Int} : ∀ n : Nat, (∀ i, i < n → f i = g i) → hz f n = hz g n
  | 0, _ => rfl
  | n + 1, h => by
    show hz f n * 27 + f n = hz g n * 27 + g n
    rw [hz_congr n (fun i hi => h i (by omega)), h n (by omega)]
theorem vz_bd {T : Nat → Int} {s : Nat} : ∀ n : Nat, n ≤ 4 → (∀ i, i < n → 48 ≤ T (s + i) ∧ T (s + i) ≤ 57) → 0 ≤ vz T s n ∧ vz T s n < 10 ^ n
  | 0, _, _ => by show (0 : Int) ≤ 0 ∧ (0 : Int) < 1; omega
  | n + 1, hn, h => by
    have ih := vz_bd n (by omega) (fun i hi => h i (by omega))
    have := h n (by omega)
    show 0 ≤ vz T s n * 10 + (T (s + n) - 48) ∧ vz T s n * 10 + (T (s + n) - 48) < 10 ^ (n + 1)
    rw [Int.pow_succ]
    omega
def wdg (k i : Nat) : Int := (wl k).getD i 0
def wordOf (key : Int) : Nat := (List.range' 0 37).foldl (fun w k => if wK.getD k 0 = key then k + 1 else w) 0
theorem fold_m (key : Int) : ∀ (l : List Nat) (w : Nat), ((∀ k ∈ l, wK.getD k 0 ≠ key) ∧ l.foldl (fun w k => if wK.getD k 0 = key then k + 1 else w) w = w) ∨ ∃ k ∈ l, wK.getD k 0 = key ∧ l.foldl (fun w k => if wK.getD k 0 = key then k + 1 else w) w = k + 1
  | [], w => Or.inl ⟨fun k hk => absurd hk (by simp), rfl⟩
  | a :: l, w => by
    show ((∀ k ∈ a :: l, wK.getD k 0 ≠ key) ∧ l.foldl (fun w k => if wK.getD k 0 = key then k + 1 else w) (if wK.getD a 0 = key then a + 1 else w) = w) ∨ ∃ k ∈ a :: l, wK.getD k 0 = key ∧ l.foldl (fun w k => if wK.getD k 0 = key then k + 1 else w) (if wK.getD a 0 = key then a + 1 else w) = k + 1
    by_cases c : wK.getD a 0 = key
    · rw [if_pos c]
      rcases fold_m key l (a + 1) with ⟨_, e⟩ | ⟨k, hk, e1, e2⟩
      · exact Or.inr ⟨a, by simp, c, e⟩
      · exact Or.inr ⟨k, by simp [hk], e1, e2⟩
    · rw [if_neg c]
      rcases fold_m key l w with ⟨h, e⟩ | ⟨k, hk, e1, e2⟩
      · refine Or.inl ⟨fun k hk => ?_, e⟩
        rcases List.mem_cons.mp hk with rfl | hk
        · exact c
        · exact h k hk
      · exact Or.inr ⟨k, by simp [hk], e1, e2⟩
set_option maxRecDepth 100000 in
theorem wK_inj : ∀ i, i < 37 → ∀ j, j < 37 → wK.getD i 0 = wK.getD j 0 → i = j := by decide
theorem wordOf_k {key : Int} {k : Nat} (hk : k < 37) : wordOf key = k + 1 ↔ wK.getD k 0 = key := by
  unfold wordOf
  rcases fold_m key (List.range' 0 37) 0 with ⟨h, e⟩ | ⟨j, hj, e1, e2⟩
  · rw [e]
    exact ⟨fun q => by omega, fun q => absurd q (h k (by rw [List.mem_range'_1]; omega))⟩
  · rw [e2]
    rw [List.mem_range'_1] at hj
    exact ⟨fun q => by rw [← e1, show k = j by omega], fun q => by rw [wK_inj k hk j (by omega) (q.trans e1.symm)]⟩
theorem wordOf_le (key : Int) : wordOf key ≤ 37 := by
  unfold wordOf
  rcases fold_m key (List.range' 0 37) 0 with ⟨h, e⟩ | ⟨j, hj, e1, e2⟩
  · rw [e]; omega
  · rw [e2]; rw [List.mem_range'_1] at hj; omega
set_option maxRecDepth 100000 in
theorem wK_hz : ∀ k, k < 37 → wK.getD k 0 = hz (wdg k) 6 := by decide
set_option maxRecDepth 100000 in
theorem wl_len : ∀ k, k < 37 → (wl k).length ≤ 6 := by decide
set_option maxRecDepth 100000 in
theorem wl_dig : ∀ k, k < 37 → ∀ i, i < 6 → (i < (wl k).length → 1 ≤ wdg k i ∧ wdg k i ≤ 26) ∧ ((wl k).length ≤ i → wdg k i = 0) := by decide
theorem wdg_bd (k : Nat) (hk : k < 37) (i : Nat) : 0 ≤ wdg k i ∧ wdg k i ≤ 26 := by
  by_cases c : i < 6
  · have := wl_dig k hk i c
    by_cases c2 : i < (wl k).length
    · have := this.1 c2; omega
    · rw [this.2 (by omega)]; omega
  · have := wl_len k hk
    have e : wdg k i = 0 := by
      unfold wdg
      rw [List.getD_eq_getElem?_getD, List.getElem?_eq_none (by omega)]; rfl
    rw [e]; omega
theorem dg_bd {T : Nat → Int} {s n : Nat} (h : ∀ i, i < n → lP (T (s + i)) = true) (i : Nat) : 0 ≤ dg T s n i ∧ dg T s n i ≤ 26 := by
  unfold dg
  by_cases c : i < n
  · rw [if_pos c]; have := lP_t.mp (h i c); omega
  · rw [if_neg c]; omega
theorem word_sp {T : Nat → Int} {s n k : Nat} (hk : k < 37) (hn : n ≤ 6) (h : ∀ i, i < n → lP (T (s + i)) = true) : wordOf (hz (dg T s n) 6) = k + 1 ↔ n = (wl k).length ∧ ∀ i, i < n → T (s + i) = 96 + (wl k).getD i 0 := by
  rw [wordOf_k hk, wK_hz k hk]
  have l6 := wl_len k hk
  constructor
  · intro e
    have z := hz_inj (wdg_bd k hk) (dg_bd h) 6 e
    have en : n = (wl k).length := by
      apply Nat.le_antisymm
      · rcases Nat.lt_or_ge (wl k).length n with q | q
        · have z1 := z (wl k).length (by omega)
          rw [(wl_dig k hk _ (by omega)).2 (Nat.le_refl _)] at z1
          unfold dg at z1
          rw [if_pos q] at z1
          have := lP_t.mp (h _ q)
          omega
        · exact q
      · rcases Nat.lt_or_ge n (wl k).length with q | q
        · have z1 := z n (by omega)
          have z2 := (wl_dig k hk n (by omega)).1 q
          unfold dg at z1
          rw [if_neg (by omega)] at z1
          omega
        · exact q
    refine ⟨en, fun i hi => ?_⟩
    have z1 := z i (by omega)
    unfold dg at z1
    rw [if_pos hi] at z1
    have e2 : wdg k i = (wl k).getD i 0 := rfl
    omega
  · rintro ⟨en, e⟩
    apply hz_congr
    intro i hi
    unfold dg
    by_cases c : i < n
    · rw [if_pos c, e i c]
      have e2 : wdg k i = (wl k).getD i 0 := rfl
      omega
    · rw [if_neg c, (wl_dig k hk i (by omega)).2 (by omega)]
def bl (T : Nat → Int) (L p : Nat) : Nat := rn bP T L p
def stk (T : Nat → Int) (L p : Nat) (t : Bool) : Bool := t && decide (bl T L p = p)
def knd (T : Nat → Int) (L p : Nat) (t : Bool) : Int := if lP (ch T L (bl T L p)) = true then (if stk T L p t = true then 4 else 1) else if dP (ch T L (bl T L p)) = true then (if stk T L p t = true then 4 else 2) else if ch T L (bl T L p) = -1 then 0 else 3
def stp (T : Nat → Int) (L p : Nat) : Nat := if lP (ch T L (bl T L p)) = true then rn lP T L (bl T L p) else if dP (ch T L (bl T L p)) = true then rn dP T L (bl T L p) else if ch T L (bl T L p) = -1 then bl T L p else bl T L p + 1
/-- the address of the word that stands next; 0: none -/
def wrd (T : Nat → Int) (L p : Nat) (t : Bool) : Nat := if knd T L p t = 1 ∧ stp T L p - bl T L p ≤ 6 then wordOf (hz (dg T (bl T L p) (stp T L p - bl T L p)) 6) else 0
def TX (T : Nat → Int) (L : Nat) : Prop := L ≤ 1600 ∧ ∀ j, j < 1600 → 0 ≤ T j ∧ T j ≤ 255
/-- the class's reader stands behind p; t: a word or number ended there -/
def RdS (A : AH) (T : Nat → Int) (L p : Nat) (t : Bool) : Prop := (gr A 42 0 = 41 ∧ ln A 41 = 1600 ∧ gi A 42 1 = L ∧ (∀ j, gi A 41 j = T j) ∧ TX T L ∧ p ≤ L)
  ∧ gi A 42 5 = bl T L p ∧ gi A 42 2 = stp T L p ∧ gi A 42 6 = knd T L p t ∧ gr A 42 7 = wrd T L p t
  ∧ (lP (ch T L (bl T L p)) = true → stp T L p - bl T L p ≤ 6 → gi A 42 3 = hz (dg T (bl T L p) (stp T L p - bl T L p)) 6)
  ∧ (dP (ch T L (bl T L p)) = true → stp T L p - bl T L p ≤ 4 → gi A 42 4 = vz T (bl T L p) (stp T L p - bl T L p))
def frR (A B : AH) : Prop := (∀ a j, ¬ (a = 42 ∧ 2 ≤ j ∧ j ≤ 10) → gi B a j = gi A a j) ∧ (∀ a j, ¬ (a = 42 ∧ j = 7) → gr B a j = gr A a j) ∧ B.2.2 = A.2.2
theorem frR_refl (A : AH) : frR A A := ⟨fun _ _ _ => rfl, fun _ _ _ => rfl, rfl⟩
theorem frR_trans {A B C : AH} (h1 : frR A B) (h2 : frR B C) : frR A C := ⟨fun a j r => (h2.1 a j r).trans (h1.1 a j r), fun a j r => (h2.2.1 a j r).trans (h1.2.1 a j r), h2.2.2.trans h1.2.2⟩
theorem frR_wi {A B : AH} {k : Nat} (v : Int) (h : 2 ≤ k ∧ k ≤ 10) (h2 : frR A B) : frR A (wi B 42 k v) := frR_trans h2 ⟨fun b j r => by rw [gi_wi, if_neg (by omega)], fun _ _ _ => rfl, rfl⟩
theorem frR_wr {A B : AH} (v : Nat) (h2 : frR A B) : frR A (wr B 42 7 v) := frR_trans h2 ⟨fun _ _ _ => rfl, fun b j r => by rw [gr_wr, if_neg r], rfl⟩
