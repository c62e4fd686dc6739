theorem plJ : plainName "java/lang/Math" = true ∧ plainName "java/lang/Integer" = true ∧ plainName "java/lang/Long" = true := by decide +kernel
