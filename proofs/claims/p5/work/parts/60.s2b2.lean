theorem ckN2_11 : ckN2 11 = true := by decide +kernel
theorem ck02_11 : ck02 11 = true := by decide +kernel
theorem ck62_11 : ck62 11 = true := by decide +kernel
theorem ck12_11 : ck12 11 0 = true := by decide +kernel
theorem ck82_11 : arun skC2 skX2 (36, skH2 11 8, 10) [] [36, 155, 167] 69 36 (skH2 11 8) = true := by decide +kernel
theorem ckN2_12 : ckN2 12 = true := by decide +kernel
theorem ck02_12 : ck02 12 = true := by decide +kernel
theorem ck62_12 : ck62 12 = true := by decide +kernel
theorem ck12_12 : ck12 12 0 = true := by decide +kernel
theorem ck82_12 : arun skC2 skX2 (36, skH2 12 8, 10) [] [36, 155, 167] 69 36 (skH2 12 8) = true := by decide +kernel
theorem ckN2_13 : ckN2 13 = true := by decide +kernel
theorem ck02_13 : ck02 13 = true := by decide +kernel
theorem ck62_13 : ck62 13 = true := by decide +kernel
theorem ck12_13 : ck12 13 0 = true := by decide +kernel
theorem ck82_13 : arun skC2 skX2 (36, skH2 13 8, 10) [] [36, 155, 167] 69 36 (skH2 13 8) = true := by decide +kernel
theorem ckN2_14 : ckN2 14 = true := by decide +kernel
theorem ck02_14 : ck02 14 = true := by decide +kernel
theorem ck62_14 : ck62 14 = true := by decide +kernel
theorem ck12_14 : ck12 14 0 = true := by decide +kernel
theorem ck82_14 : arun skC2 skX2 (36, skH2 14 8, 10) [] [36, 155, 167] 69 36 (skH2 14 8) = true := by decide +kernel
