theorem chk_all : ∀ mi, mi < 311 → chkM mi = true := sorry
