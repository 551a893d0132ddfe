/-! what holds of a heap stays, step by step -/
theorem kd_cpa (A : AH) (s sp d dp n b : Nat) : kd (cpa A s sp d dp n) b = kd A b := rfl
theorem wf_wi {L : Nat} {xs : Nat → Int32} {A : AH} {a j : Nat} {x : Int} (h : WF L xs A) (ha : 40 ≤ a) (hx : match ftg A a j with | 0 => in32 x | 1 => in64 x | 2 => x = 0 ∨ x = 1 | 7 => 0 ≤ x ∧ x < 65536 | _ => False) : WF L xs (wi A a j x) := by
  obtain ⟨h1, h2, h3, h4⟩ := h
  refine ⟨h1, h2, fun b i hb hz => ?_, fun i hi => ?_⟩
  · have h := h3 b i hb hz
    have hf : ftg (wi A a j x) b i = ftg A b i := rfl
    rw [hf]
    by_cases hbi : b = a ∧ i = j
    · obtain ⟨rfl, rfl⟩ := hbi
      revert hx
      generalize ftg A b i = t
      intro hx
      unfold oks
      simp only [gi_wi, and_self, if_true]
      split at hx
      · exact hx
      · exact hx
      · exact hx
      · exact hx
      · exact hx.elim
    · unfold oks at h ⊢
      simp only [gi_wi, if_neg hbi, gr_wi]
      exact h
  · rw [gi_wi, if_neg (by omega)]; exact h4 i hi
theorem wf_wr {L : Nat} {xs : Nat → Int32} {A : AH} {a j v : Nat} (h : WF L xs A) (hx : 10 ≤ ftg A a j) (hv : okref A (ftg A a j) v) : WF L xs (wr A a j v) := by
  obtain ⟨h1, h2, h3, h4⟩ := h
  refine ⟨h1, h2, fun b i hb hz => ?_, h4⟩
  have h := h3 b i hb hz
  have hf : ftg (wr A a j v) b i = ftg A b i := rfl
  rw [hf]
  by_cases hbi : b = a ∧ i = j
  · obtain ⟨rfl, rfl⟩ := hbi
    unfold oks
    generalize ftg A b i = t at hx hv
    match t, hx, hv with
    | t' + 10, hx, hv =>
      refine ⟨hx, ?_⟩
      rw [gr_wr, if_pos ⟨rfl, rfl⟩]
      exact hv
  · unfold oks at h ⊢
    simp only [gr_wr, if_neg hbi, gi_wr]
    exact h
theorem okref_nw {A : AH} {t a k n : Nat} (h : okref A t a) : okref (nw A k n) t a := by
  rcases h with h | h
  · exact Or.inl h
  · refine Or.inr ?_
    revert h
    split <;> intro h
    · exact h
    · exact h
    · exact h
    · rw [sz_nw, kd_nw, if_neg (by omega)]
      exact ⟨h.1, by omega, h.2.2⟩
theorem okv_nw {L : Nat} {A : AH} {v : AV} {k n : Nat} (h : okv L A v) : okv L (nw A k n) v := by
  unfold okv at h ⊢
  split at h
  · exact h
  · exact h
  · exact h
  · exact h
  · refine ⟨h.1, okref_nw h.2.1, fun h30 h0 => ?_⟩
    rw [h.2.2 h30 h0]
    have h1 := h.2.1
    rcases h1 with h1 | h1
    · exact absurd h1 h0
    · unfold lenf
      split
      · rfl
      · rfl
      · rename_i n34 n35
        rw [ln_nw]
        by_cases h22 : v.1 = 22
        · omega
        · revert h1
          split
          · intro _; exact absurd (by assumption) h22
          · intro _; exact absurd (by assumption) n34
          · intro _; exact absurd (by assumption) n35
          · intro h1; rw [if_neg (by omega)]
theorem OKV_nw {L : Nat} {A : AH} {vs : List AV} {k n : Nat} (h : OKV L A vs) : OKV L (nw A k n) vs := fun v hv => okv_nw (h v hv)
theorem wf_nw {L : Nat} {xs : Nat → Int32} {A : AH} {k n : Nat} (h : WF L xs A) (hk : (k < 12 ∧ n = nf k) ∨ (20 ≤ k ∧ k ≤ 23 ∧ n ≤ 1000000)) (hf : ∀ j, fty k j = 0 ∨ fty k j = 1 ∨ fty k j = 2 ∨ 10 ≤ fty k j) : WF L xs (nw A k n) := by
  obtain ⟨h1, h2, h3, h4⟩ := h
  refine ⟨by rw [sz_nw]; omega, fun a ha hz => ?_, fun a j ha hz => ?_, fun j hj => ?_⟩
  · unfold shp
    rw [kd_nw, ln_nw]
    by_cases e : a = sz A
    · rw [if_pos e, if_pos e]; exact hk
    · rw [if_neg e, if_neg e]
      rw [sz_nw] at hz
      exact h2 a ha (by omega)
  · by_cases e : a = sz A
    · have hi : gi (nw A k n) a j = 0 := by rw [gi_nw, if_pos e]
      have hr : gr (nw A k n) a j = 0 := by rw [gr_nw, if_pos e]
      have hall : ∀ t, (t = 0 ∨ t = 1 ∨ t = 2 ∨ t = 7 ∨ 10 ≤ t) → oks (nw A k n) t a j := by
        intro t ht
        unfold oks
        rw [hi, hr]
        split
        · exact in32_0
        · exact in64_0
        · exact Or.inl rfl
        · omega
        · rename_i q0 q1 q2 q7
          rcases ht with h | h | h | h | h
          · exact (q0 h).elim
          · exact (q1 h).elim
          · exact (q2 h).elim
          · exact (q7 h).elim
          · exact ⟨h, Or.inl rfl⟩
      apply hall
      unfold ftg
      rw [kd_nw, if_pos e]
      split
      · omega
      · omega
      · omega
      · omega
      · rcases hf j with h | h | h | h <;> omega
    · rw [sz_nw] at hz
      have h := h3 a j ha (by omega)
      have hft : ftg (nw A k n) a j = ftg A a j := by unfold ftg; rw [kd_nw, if_neg e]
      rw [hft]
      unfold oks at h ⊢
      simp only [gi_nw, gr_nw, if_neg e]
      split at h
      · exact h
      · exact h
      · exact h
      · exact h
      · exact ⟨h.1, okref_nw h.2⟩
  · rw [gi_nw, if_neg (by omega)]; exact h4 j hj
theorem wf_cpa {L : Nat} {xs : Nat → Int32} {A : AH} {s sp d dp n : Nat} (h : WF L xs A) (hs : 40 ≤ s) (hsz : s < sz A) (hks : kd A s = 20) (hd : 40 ≤ d) (hkd : kd A d = 20) : WF L xs (cpa A s sp d dp n) := by
  obtain ⟨h1, h2, h3, h4⟩ := h
  refine ⟨h1, h2, fun b i hb hz => ?_, fun i hi => ?_⟩
  · have h := h3 b i hb hz
    have hf : ftg (cpa A s sp d dp n) b i = ftg A b i := rfl
    rw [hf]
    by_cases hbi : b = d ∧ (dp ≤ i ∧ i < dp + n)
    · have hb0 : ftg A b i = 0 := by unfold ftg; rw [hbi.1, hkd]; rfl
      rw [hb0]
      show in32 (gi (cpa A s sp d dp n) b i)
      rw [gi_cpa, if_pos hbi]
      have h5 := h3 s (sp + (i - dp)) hs hsz
      have hs0 : ftg A s (sp + (i - dp)) = 0 := by unfold ftg; rw [hks]; rfl
      rw [hs0] at h5
      exact h5
    · unfold oks at h ⊢
      simp only [gi_cpa, if_neg hbi, gr_cpa]
      exact h
  · rw [gi_cpa, if_neg (by omega)]; exact h4 i hi
/-- how a reference of a kind stands -/
theorem ok_obj {L : Nat} {A : AH} {k a n : Nat} {z : Int} (h : okv L A (10 + k, z, a, n)) (hk : k < 12 ∨ (20 ≤ k ∧ k ≤ 23)) (ha : a ≠ 0) : 40 ≤ a ∧ a < sz A ∧ kd A a = k ∧ (20 ≤ k → n = ln A a) := by
  have h2 : 10 ≤ 10 + k ∧ okref A (10 + k) a ∧ (30 ≤ 10 + k → a ≠ 0 → n = lenf L A (10 + k) a) := by
    unfold okv at h
    dsimp only at h
    split at h <;> first | omega | exact h
  obtain ⟨-, h3, h4⟩ := h2
  rcases h3 with h3 | h3
  · exact absurd h3 ha
  · split at h3
    · omega
    · omega
    · omega
    · refine ⟨h3.1, h3.2.1, by omega, fun hk20 => ?_⟩
      rw [h4 (by omega) ha]
      unfold lenf
      split <;> first | omega | rfl
theorem okv_ref {L : Nat} {A : AH} {t a n : Nat} (ht : 10 ≤ t) (hr : okref A t a) (hn : 30 ≤ t → a ≠ 0 → n = lenf L A t a) : okv L A (vR t a n) := by
  unfold okv vR
  dsimp only
  split <;> first | omega | exact ⟨ht, hr, hn⟩
theorem upd_i {A : AH} {a j : Nat} {x : Int} : upd (fun i => c32 (gi A a i)) j (c32 x) = fun i => c32 (gi (wi A a j x) a i) := by
  funext i
  unfold upd
  rw [gi_wi]
  by_cases h : i = j
  · rw [if_pos h, if_pos ⟨rfl, h⟩]
  · rw [if_neg h, if_neg (fun z => h z.2)]
theorem upd_l {A : AH} {a j : Nat} {x : Int} : vp_updL (fun i => c64 (gi A a i)) j (c64 x) = fun i => c64 (gi (wi A a j x) a i) := by
  funext i
  unfold vp_updL
  rw [gi_wi]
  by_cases h : i = j
  · rw [if_pos h, if_pos ⟨rfl, h⟩]
  · rw [if_neg h, if_neg (fun z => h z.2)]
theorem wce_wi {Z : CI4} {A : AH} {ad : Nat → Nat} {a j : Nat} {x : Int} : ∀ b, b ≠ a → wce Z (wi A a j x) ad b = wce Z A ad b := fun b hb =>
  wce_congr rfl rfl (fun i => by rw [gi_wi, if_neg (fun z => hb z.1)]) (fun i => rfl)
theorem wce_wr {Z : CI4} {A : AH} {ad : Nat → Nat} {a j v : Nat} : ∀ b, b ≠ a → wce Z (wr A a j v) ad b = wce Z A ad b := fun b hb =>
  wce_congr rfl rfl (fun i => rfl) (fun i => by rw [gr_wr, if_neg (fun z => hb z.1)])
theorem wce_cpa {Z : CI4} {A : AH} {ad : Nat → Nat} {s sp d dp n : Nat} : ∀ b, b ≠ d → wce Z (cpa A s sp d dp n) ad b = wce Z A ad b := fun b hb =>
  wce_congr rfl rfl (fun i => by rw [gi_cpa, if_neg (fun z => hb z.1)]) (fun i => rfl)
theorem wce_20 {Z : CI4} {A : AH} {ad : Nat → Nat} {a : Nat} (h : kd A a = 20) : wce Z A ad a = .inl (Z.1, ln A a, .inl (fun j => c32 (gi A a j))) := by unfold wce; rw [h]; rfl
theorem wce_21 {Z : CI4} {A : AH} {ad : Nat → Nat} {a : Nat} (h : kd A a = 21) : wce Z A ad a = .inl (Z.2.1, ln A a, .inr (.inl (fun j => c64 (gi A a j)))) := by unfold wce; rw [h]; rfl
theorem wce_22 {Z : CI4} {A : AH} {ad : Nat → Nat} {a : Nat} (h : kd A a = 22) : wce Z A ad a = .inl (Z.2.2.1, ln A a, .inl (fun j => c32 (gi A a j))) := by unfold wce; rw [h]; rfl
theorem wce_23 {Z : CI4} {A : AH} {ad : Nat → Nat} {a : Nat} (h : kd A a = 23) : wce Z A ad a = .inl (Z.2.2.2, ln A a, .inr (.inr (.inr (.inr (fun j => rfo ad (gr A a j)))))) := by unfold wce; rw [h]; rfl
/-- a new cell at q -/
def adn (ad : Nat → Nat) (z q : Nat) : Nat → Nat := fun b => if b = z then q else ad b
theorem okref_lt {A : AH} {t a : Nat} (h : okref A t a) (hz : 40 ≤ sz A) : a < sz A := by
  rcases h with h | h
  · omega
  · revert h
    split <;> intro h <;> omega
theorem wd_nw {L : Nat} {xs : Nat → Int32} {Z : CI4} {A : AH} {ad : Nat → Nat} {k n q : Nat} (h : WF L xs A) : wd Z (nw A k n) (adn ad (sz A) q) = wd Z A ad ++ [(q, wce Z (nw A k n) (adn ad (sz A) q) (sz A))] := by
  have hz := h.1
  have hold : ∀ b, 40 ≤ b → b < sz A → wce Z (nw A k n) (adn ad (sz A) q) b = wce Z A ad b := by
    intro b hb hlt
    have hne : b ≠ sz A := by omega
    have hrf : 10 ≤ ftg A b 0 ∨ True := Or.inr trivial
    unfold wce
    rw [kd_nw, if_neg hne, ln_nw, if_neg hne]
    have hi : ∀ j, gi (nw A k n) b j = gi A b j := fun j => by rw [gi_nw, if_neg hne]
    have hr : ∀ j, gr (nw A k n) b j = gr A b j := fun j => by rw [gr_nw, if_neg hne]
    have hro : ∀ t j, okref A t (gr A b j) → rfo (adn ad (sz A) q) (gr A b j) = rfo ad (gr A b j) := by
      intro t j ho
      have := okref_lt ho hz
      unfold rfo adn
      by_cases h0 : gr A b j = 0
      · rw [if_pos h0, if_pos h0]
      · rw [if_neg h0, if_neg h0, if_neg (by omega)]
    have h3 := fun j => h.2.2.1 b j hb hlt
    split
    · simp only [hi]
    · simp only [hi]
    · simp only [hi]
    · rename_i hk
      have : ∀ j, rfo (adn ad (sz A) q) (gr (nw A k n) b j) = rfo ad (gr A b j) := by
        intro j
        have h4 := h3 j
        have hft : ftg A b j = 19 := by unfold ftg; rw [hk]; rfl
        rw [hft] at h4
        rw [hr]
        exact hro 19 j h4.2
      simp only [this]
    · rename_i h20 h21 h22 h23
      congr 2
      unfold flds
      apply List.map_congr_left
      intro j hj
      have h4 := h3 j
      have hft : ftg A b j = fty (kd A b) j := by
        unfold ftg
        split <;> first | (rename_i hh; first | exact absurd hh h20 | exact absurd hh h21 | exact absurd hh h22 | exact absurd hh h23) | rfl
      rw [hft] at h4
      unfold fld
      unfold oks at h4
      split
      · rw [hi]
      · rw [hi]
      · rw [hi]
      · rename_i t0 t1 t2
        unfold rfv
        rw [hr]
        split at h4
        · rename_i hh; exact absurd hh t0
        · rename_i hh; exact absurd hh t1
        · rename_i hh; exact absurd hh t2
        · rename_i hh
          have := fty_no7 (kd A b) j
          exact absurd hh this
        · rw [hro _ j h4.2]
  unfold wd
  rw [sz_nw, show sz A + 1 - 40 = sz A - 40 + 1 by omega, List.range_succ, List.map_append]
  congr 1
  · apply List.map_congr_left
    intro i hi
    have hi := List.mem_range.mp hi
    rw [hold (i + 40) (by omega) (by omega)]
    unfold adn
    rw [if_neg (by omega)]
  · simp only [List.map_cons, List.map_nil]
    rw [show sz A - 40 + 40 = sz A by omega]
    unfold adn
    rw [if_pos rfl]
