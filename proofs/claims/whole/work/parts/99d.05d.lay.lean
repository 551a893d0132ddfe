/-! the layout -/
theorem lyC_all : ∀ q ∈ obL, ∀ j, j < 120 → lyC q.1 q.2 j = true := by
  unfold obL
  intro q hq
  simp only [List.mem_cons, List.not_mem_nil, or_false] at hq
  rcases hq with rfl | rfl | rfl | rfl | rfl | rfl | rfl | rfl | rfl | rfl | rfl | rfl | rfl | rfl | rfl | rfl | rfl | rfl | rfl | rfl | rfl | rfl | rfl | rfl | rfl | rfl | rfl | rfl | rfl | rfl | rfl | rfl | rfl | rfl
  · exact lyc_40
  · exact lyc_42
  · exact lyc_44
  · exact lyc_46
  · exact lyc_48
  · exact lyc_58
  · exact lyc_68
  · exact lyc_73
  · exact lyc_78
  · exact lyc_80
  · exact lyc_85
  · exact lyc_90
  · exact lyc_95
  · exact lyc_100
  · exact lyc_105
  · exact lyc_110
  · exact lyc_115
  · exact lyc_120
  · exact lyc_125
  · exact lyc_130
  · exact lyc_135
  · exact lyc_140
  · exact lyc_145
  · exact lyc_150
  · exact lyc_155
  · exact lyc_160
  · exact lyc_165
  · exact lyc_170
  · exact lyc_175
  · exact lyc_180
  · exact lyc_185
  · exact lyc_186
  · exact lyc_187
  · exact lyc_190
theorem ob_all : ∀ i, i < 231 → (40 + i, (shL.getD i (99, 0)).1) ∈ obL ∨ 12 ≤ (shL.getD i (99, 0)).1 := by decide +kernel
theorem shI_get (i : Nat) : shI.getD (40 + i) (99, 0) = shL.getD i (99, 0) := by
  unfold shI
  rw [List.getD_eq_getElem?_getD, List.getD_eq_getElem?_getD, List.getElem?_append_right (by rw [List.length_replicate]; omega), List.length_replicate, show 40 + i - 40 = i by omega]
theorem lay_I (L : Nat) (xs : Nat → Int32) : LayOK (AI L xs) := by
  intro a h1 h2 j hj
  rw [sz_I] at h2 ⊢
  rw [kd_I] at hj ⊢
  rw [gr_I, ln_I]
  obtain ⟨i, rfl⟩ : ∃ i, a = 40 + i := ⟨a - 40, by omega⟩
  have hj2 : j < 120 := by
    rcases Nat.lt_or_ge j 120 with q | q
    · exact q
    · exact absurd (lyo_b120 _ j q) hj
  rw [shI_get] at hj ⊢
  rcases ob_all i (by omega) with q | q
  · have := lyC_all _ q j hj2
    unfold lyC at this
    simp only at this
    split at this
    · rename_i q2
      exact absurd (Nat.eq_of_beq_eq_true q2) hj
    · rw [Bool.and_eq_true, Bool.and_eq_true, Bool.or_eq_true, RB_eq] at this
      obtain ⟨⟨q1, q2⟩, q3⟩ := this
      refine ⟨Nat.eq_of_beq_eq_true q1, Nat.le_of_ble_eq_true q2, fun h30 => ?_⟩
      rcases q3 with q3 | q3
      · have := Nat.le_of_ble_eq_true q3; omega
      · exact Nat.eq_of_beq_eq_true q3
  · rw [lyo_big q] at hj
    exact absurd rfl hj
