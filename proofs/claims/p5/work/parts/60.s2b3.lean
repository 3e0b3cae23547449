theorem ckN2_15 : ckN2 15 = true := by decide +kernel
theorem ck02_15 : ck02 15 = true := by decide +kernel
theorem ck62_15 : ck62 15 = true := by decide +kernel
theorem ck12_15 : ck12 15 0 = true := by decide +kernel
theorem ck82_15 : arun skC2 skX2 (36, skH2 15 8, 10) [] [36, 155, 167] 69 36 (skH2 15 8) = true := by decide +kernel
theorem ckN2_16 : ckN2 16 = true := by decide +kernel
theorem ck02_16 : ck02 16 = true := by decide +kernel
theorem ck62_16 : ck62 16 = true := by decide +kernel
theorem ck12_16 : ck12 16 0 = true := by decide +kernel
theorem ck82_16 : arun skC2 skX2 (36, skH2 16 8, 10) [] [36, 155, 167] 69 36 (skH2 16 8) = true := by decide +kernel
theorem ckN2_17 : ckN2 17 = true := by decide +kernel
theorem ck02_17 : ck02 17 = true := by decide +kernel
theorem ck62_17 : ck62 17 = true := by decide +kernel
theorem ck12_17 : ck12 17 0 = true := by decide +kernel
theorem ck82_17 : arun skC2 skX2 (36, skH2 17 8, 10) [] [36, 155, 167] 69 36 (skH2 17 8) = true := by decide +kernel
theorem ckN2_18 : ckN2 18 = true := by decide +kernel
theorem ck02_18 : ck02 18 = true := by decide +kernel
theorem ck62_18 : ck62 18 = true := by decide +kernel
theorem ck12_18 : ck12 18 0 = true := by decide +kernel
theorem ck82_18 : arun skC2 skX2 (36, skH2 18 8, 10) [] [36, 155, 167] 69 36 (skH2 18 8) = true := by decide +kernel
