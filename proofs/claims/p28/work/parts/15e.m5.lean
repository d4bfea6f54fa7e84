set_option maxRecDepth 100000 in
theorem okN_7 : okN 7 = true := by decide +kernel
