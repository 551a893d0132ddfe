/-! a new HALL lies as the layout says -/
def naf (A : AH) (a s n : Nat) : AH := wr (nw A 20 n) a s (sz A)
def hallI0 (A : AH) (a : Nat) : AH := wi (wi (wi (wi (wi (wi (wi A a 0 0) a 1 0) a 2 0) a 3 0) a 4 0) a 5 0) a 6 0
def hallI (A : AH) (a : Nat) : AH := wi (wr (wr (naf (naf (naf (naf (naf (naf (naf (naf (naf (hallI0 A a) a 7 20) a 8 16) a 9 16) a 10 8) a 11 8) a 12 6) a 13 8) a 14 18) a 15 16) a 16 0) a 17 0) a 18 0
theorem hallI_go (S SN : SX) (n a : Nat) (A : AH) (ha : a ≠ 0) : go false 3 S SN pb_X3_init (n + 1) 0 [vR 13 a 0] [] A = some (none, hallI A a) := by
  obtain ⟨a, rfl⟩ := Nat.exists_eq_succ_of_ne_zero ha
  rfl
theorem hallI_run (d a : Nat) (A : AH) (ha : a ≠ 0) : run (d + 1) 42 [vR 13 a 0] A = some (none, hallI A a) := hallI_go _ _ _ _ _ ha
def LayX (z : Nat) (A : AH) : Prop := ∀ a, 40 ≤ a → a < sz A → a ≠ z → ∀ j, (lyo (kd A a) j).1 ≠ 0 → gr A a j = lad (kd A a) j a ∧ gr A a j < sz A ∧ (30 ≤ fty (kd A a) j → ln A (gr A a j) = (lyo (kd A a) j).2.1)
theorem layX_nw {A : AH} {z k n : Nat} (hk : 12 ≤ k ∨ sz A = z) (h : LayX z A) : LayX z (nw A k n) := by
  intro b hb hz hbz i hi
  rw [sz_nw] at hz
  by_cases e : b = sz A
  · rcases hk with hk | hk
    · exfalso
      apply hi
      rw [kd_nw, if_pos e, lyo_big hk]
    · exact absurd (e.trans hk) hbz
  · rw [kd_nw, if_neg e] at hi ⊢
    have h2 := h b hb (by omega) hbz i hi
    have hg : gr (nw A k n) b i = gr A b i := by rw [gr_nw, if_neg e]
    rw [hg, sz_nw, ln_nw, if_neg (by omega)]
    exact ⟨h2.1, by omega, h2.2.2⟩
theorem layX_wr {A : AH} {z s v : Nat} (h : LayX z A) : LayX z (wr A z s v) := by
  intro b hb hz hbz i hi
  have hg : gr (wr A z s v) b i = gr A b i := by rw [gr_wr, if_neg (fun q => hbz q.1)]
  rw [hg]
  exact h b hb hz hbz i hi
theorem layX_naf {A : AH} {z s n : Nat} (h : LayX z A) : LayX z (naf A z s n) := layX_wr (layX_nw (Or.inl (by omega)) h)
theorem sz_naf (A : AH) (a s n : Nat) : sz (naf A a s n) = sz A + 1 := sz_nw A 20 n
theorem kd_naf {A : AH} {a s n b : Nat} : kd (naf A a s n) b = if b = sz A then 20 else kd A b := kd_nw A 20 n b
theorem ln_naf {A : AH} {a s n b : Nat} : ln (naf A a s n) b = if b = sz A then n else ln A b := ln_nw A 20 n b
theorem gr_naf {A : AH} {a s n b j : Nat} : gr (naf A a s n) b j = if b = a ∧ j = s then sz A else if b = sz A then 0 else gr A b j := rfl
theorem lyo3 : ∀ j, (lyo 3 j).1 ≠ 0 → (7 ≤ j ∧ j ≤ 15) := by
  intro j h
  by_cases hj : j < 19
  · have : ∀ j, j < 19 → (lyo 3 j).1 ≠ 0 → (7 ≤ j ∧ j ≤ 15) := by decide +kernel
    exact this j hj h
  · exfalso
    apply h
    unfold lyo
    have hl : (lyoT.getD 3 []).length = 19 := by decide +kernel
    rw [List.getD_eq_getElem?_getD, List.getElem?_eq_none (by omega)]
    rfl
theorem hall_layI {A : AH} {n : Nat} (h40 : 40 ≤ sz A) (h : LayOK A) : LayOK (hallI (nw A 3 n) (sz A)) := by
  have hx0 : LayX (sz A) (hallI0 (nw A 3 n) (sz A)) := layX_nw (A := A) (k := 3) (n := n) (Or.inr rfl) (fun a a1 a2 _ => h a a1 a2)
  have hx : LayX (sz A) (hallI (nw A 3 n) (sz A)) := layX_wr (layX_wr (layX_naf (layX_naf (layX_naf (layX_naf (layX_naf (layX_naf (layX_naf (layX_naf (layX_naf hx0))))))))))
  have hs0 : sz (hallI0 (nw A 3 n) (sz A)) = sz A + 1 := sz_nw A 3 n
  have hsz : sz (hallI (nw A 3 n) (sz A)) = sz A + 10 := by
    show sz (naf (naf (naf (naf (naf (naf (naf (naf (naf (hallI0 (nw A 3 n) (sz A)) (sz A) 7 20) (sz A) 8 16) (sz A) 9 16) (sz A) 10 8) (sz A) 11 8) (sz A) 12 6) (sz A) 13 8) (sz A) 14 18) (sz A) 15 16) = sz A + 10
    simp only [sz_naf, hs0]
  have hkd : kd (hallI (nw A 3 n) (sz A)) (sz A) = 3 := by
    show kd (naf (naf (naf (naf (naf (naf (naf (naf (naf (hallI0 (nw A 3 n) (sz A)) (sz A) 7 20) (sz A) 8 16) (sz A) 9 16) (sz A) 10 8) (sz A) 11 8) (sz A) 12 6) (sz A) 13 8) (sz A) 14 18) (sz A) 15 16) (sz A) = 3
    simp only [kd_naf, sz_naf, hs0]
    repeat rw [if_neg (by omega)]
    show kd (nw A 3 n) (sz A) = 3
    rw [kd_nw, if_pos rfl]
  intro b hb hz j hj
  by_cases e : b = sz A
  · subst e
    rw [hkd] at hj ⊢
    obtain ⟨h7, h15⟩ := lyo3 j hj
    have hgr : gr (hallI (nw A 3 n) (sz A)) (sz A) j = sz A + (j - 6) := by
      show gr (wr (wr (naf (naf (naf (naf (naf (naf (naf (naf (naf (hallI0 (nw A 3 n) (sz A)) (sz A) 7 20) (sz A) 8 16) (sz A) 9 16) (sz A) 10 8) (sz A) 11 8) (sz A) 12 6) (sz A) 13 8) (sz A) 14 18) (sz A) 15 16) (sz A) 16 0) (sz A) 17 0) (sz A) j = _
      simp only [gr_wr, gr_naf, sz_naf, hs0]
      have : j = 7 ∨ j = 8 ∨ j = 9 ∨ j = 10 ∨ j = 11 ∨ j = 12 ∨ j = 13 ∨ j = 14 ∨ j = 15 := by omega
      rcases this with q | q | q | q | q | q | q | q | q <;> subst q <;> simp [Nat.add_assoc]
    have hln : ∀ i, i < 9 → ln (hallI (nw A 3 n) (sz A)) (sz A + 1 + i) = [20, 16, 16, 8, 8, 6, 8, 18, 16].getD i 0 := by
      intro i hi
      show ln (naf (naf (naf (naf (naf (naf (naf (naf (naf (hallI0 (nw A 3 n) (sz A)) (sz A) 7 20) (sz A) 8 16) (sz A) 9 16) (sz A) 10 8) (sz A) 11 8) (sz A) 12 6) (sz A) 13 8) (sz A) 14 18) (sz A) 15 16) (sz A + 1 + i) = _
      simp only [ln_naf, sz_naf, hs0]
      have : i = 0 ∨ i = 1 ∨ i = 2 ∨ i = 3 ∨ i = 4 ∨ i = 5 ∨ i = 6 ∨ i = 7 ∨ i = 8 := by omega
      rcases this with q | q | q | q | q | q | q | q | q <;> subst q <;> simp [Nat.add_assoc]
    rw [hgr, hsz]
    have hl := hln (j - 7) (by omega)
    rw [show sz A + 1 + (j - 7) = sz A + (j - 6) by omega] at hl
    rw [hl]
    have : j = 7 ∨ j = 8 ∨ j = 9 ∨ j = 10 ∨ j = 11 ∨ j = 12 ∨ j = 13 ∨ j = 14 ∨ j = 15 := by omega
    rcases this with q | q | q | q | q | q | q | q | q <;> subst q <;> exact ⟨rfl, by omega, fun _ => rfl⟩
  · exact hx b hb hz e j hj
theorem hall_lay (d k n mj : Nat) (A A' : AH) (h40 : 40 ≤ sz A) (hl : LayOK A) (h : runN d mj [vR (10 + k) (sz A) 0] (nw A k n) = some (none, A')) : LayOK A' := by
  unfold runN at h
  split at h
  · rename_i e
    rw [Bool.and_eq_true, beq_iff_eq] at e
    obtain ⟨e1, e2⟩ := e
    have e1 := Nat.eq_of_beq_eq_true e1
    have e2 : 10 + k = 13 := e2
    have hk : k = 3 := by omega
    subst e1; subst hk
    cases d with
    | zero => cases h
    | succ d =>
      rw [hallI_run d (sz A) _ (by omega)] at h
      cases h
      exact hall_layI h40 hl
  · cases h
