theorem chk_8 : chk 8 40320 1985229328 FL8 = true := by decide +kernel
