/-! the layout, object by object -/
theorem lyc_135 : ∀ j, j < 120 → lyC 135 9 j = true := by decide +kernel
theorem lyc_140 : ∀ j, j < 120 → lyC 140 9 j = true := by decide +kernel
theorem lyc_145 : ∀ j, j < 120 → lyC 145 9 j = true := by decide +kernel
theorem lyc_150 : ∀ j, j < 120 → lyC 150 9 j = true := by decide +kernel
theorem lyc_155 : ∀ j, j < 120 → lyC 155 9 j = true := by decide +kernel
theorem lyc_160 : ∀ j, j < 120 → lyC 160 9 j = true := by decide +kernel
theorem lyc_165 : ∀ j, j < 120 → lyC 165 9 j = true := by decide +kernel
theorem lyc_170 : ∀ j, j < 120 → lyC 170 9 j = true := by decide +kernel
theorem lyc_175 : ∀ j, j < 120 → lyC 175 9 j = true := by decide +kernel
theorem lyc_180 : ∀ j, j < 120 → lyC 180 0 j = true := by decide +kernel
theorem lyc_185 : ∀ j, j < 120 → lyC 185 1 j = true := by decide +kernel
theorem lyc_186 : ∀ j, j < 120 → lyC 186 7 j = true := by decide +kernel
theorem lyc_187 : ∀ j, j < 120 → lyC 187 5 j = true := by decide +kernel
theorem lyc_190 : ∀ j, j < 120 → lyC 190 11 j = true := by decide +kernel
