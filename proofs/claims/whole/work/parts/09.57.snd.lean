/-! where what is final lies: offset or address, length, 1 if it is an address -/
def WG (f : Bool) (L : Nat) (xs : Nat → Int32) (A : AH) : Prop := WF L xs A ∧ (f = true → LayOK A)
theorem lyo_big {k j : Nat} (h : 12 ≤ k) : lyo k j = (0, 0, 0) := by
  have hl : lyoT.length = 12 := by decide +kernel
  unfold lyo
  have : lyoT.getD k [] = [] := by rw [List.getD_eq_getElem?_getD, List.getElem?_eq_none (by omega)]; rfl
  rw [this]; rfl
theorem lay_wr {A : AH} {a j v : Nat} (h : (lyo (kd A a) j).1 = 0) (hl : LayOK A) : LayOK (wr A a j v) := by
  intro b hb hz i hi
  have hi : (lyo (kd A b) i).1 ≠ 0 := hi
  have hn : ¬ (b = a ∧ i = j) := by
    rintro ⟨rfl, rfl⟩
    exact hi h
  have h2 := hl b hb hz i hi
  have hg : gr (wr A a j v) b i = gr A b i := by rw [gr_wr, if_neg hn]
  rw [hg]
  exact h2
theorem lay_nw {L : Nat} {xs : Nat → Int32} {A : AH} {k n : Nat} (hw : WF L xs A) (hk : 12 ≤ k) (hl : LayOK A) : LayOK (nw A k n) := by
  intro b hb hz i hi
  rw [sz_nw] at hz
  by_cases e : b = sz A
  · exfalso
    apply hi
    rw [kd_nw, if_pos e, lyo_big hk]
  · rw [kd_nw, if_neg e] at hi ⊢
    have h2 := hl b hb (by omega) i hi
    have hg : gr (nw A k n) b i = gr A b i := by rw [gr_nw, if_neg e]
    rw [hg, sz_nw, ln_nw, if_neg (by omega)]
    exact ⟨h2.1, by omega, h2.2.2⟩
