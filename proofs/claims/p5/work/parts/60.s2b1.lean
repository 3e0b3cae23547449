theorem ckN2_7 : ckN2 7 = true := by decide +kernel
theorem ck02_7 : ck02 7 = true := by decide +kernel
theorem ck62_7 : ck62 7 = true := by decide +kernel
theorem ck12_7 : ck12 7 0 = true := by decide +kernel
theorem ck82_7 : arun skC2 skX2 (36, skH2 7 8, 10) [] [36, 155, 167] 69 36 (skH2 7 8) = true := by decide +kernel
theorem ckN2_8 : ckN2 8 = true := by decide +kernel
theorem ck02_8 : ck02 8 = true := by decide +kernel
theorem ck62_8 : ck62 8 = true := by decide +kernel
theorem ck12_8 : ck12 8 0 = true := by decide +kernel
theorem ck82_8 : arun skC2 skX2 (36, skH2 8 8, 10) [] [36, 155, 167] 69 36 (skH2 8 8) = true := by decide +kernel
theorem ckN2_9 : ckN2 9 = true := by decide +kernel
theorem ck02_9 : ck02 9 = true := by decide +kernel
theorem ck62_9 : ck62 9 = true := by decide +kernel
theorem ck12_9 : ck12 9 0 = true := by decide +kernel
theorem ck82_9 : arun skC2 skX2 (36, skH2 9 8, 10) [] [36, 155, 167] 69 36 (skH2 9 8) = true := by decide +kernel
theorem ckN2_10 : ckN2 10 = true := by decide +kernel
theorem ck02_10 : ck02 10 = true := by decide +kernel
theorem ck62_10 : ck62 10 = true := by decide +kernel
theorem ck12_10 : ck12 10 0 = true := by decide +kernel
theorem ck82_10 : arun skC2 skX2 (36, skH2 10 8, 10) [] [36, 155, 167] 69 36 (skH2 10 8) = true := by decide +kernel
