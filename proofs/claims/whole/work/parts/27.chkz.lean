theorem chkC_all : ∀ s, s < 76 → chkC s = true := by decide +kernel
