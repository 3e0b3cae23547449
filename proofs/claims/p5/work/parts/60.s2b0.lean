theorem ckN2_3 : ckN2 3 = true := by decide +kernel
theorem ck02_3 : ck02 3 = true := by decide +kernel
theorem ck62_3 : ck62 3 = true := by decide +kernel
theorem ck12_3 : ck12 3 0 = true := by decide +kernel
theorem ck82_3 : arun skC2 skX2 (36, skH2 3 8, 10) [] [36, 155, 167] 69 36 (skH2 3 8) = true := by decide +kernel
theorem ckN2_4 : ckN2 4 = true := by decide +kernel
theorem ck02_4 : ck02 4 = true := by decide +kernel
theorem ck62_4 : ck62 4 = true := by decide +kernel
theorem ck12_4 : ck12 4 0 = true := by decide +kernel
theorem ck82_4 : arun skC2 skX2 (36, skH2 4 8, 10) [] [36, 155, 167] 69 36 (skH2 4 8) = true := by decide +kernel
theorem ckN2_5 : ckN2 5 = true := by decide +kernel
theorem ck02_5 : ck02 5 = true := by decide +kernel
theorem ck62_5 : ck62 5 = true := by decide +kernel
theorem ck12_5 : ck12 5 0 = true := by decide +kernel
theorem ck82_5 : arun skC2 skX2 (36, skH2 5 8, 10) [] [36, 155, 167] 69 36 (skH2 5 8) = true := by decide +kernel
theorem ckN2_6 : ckN2 6 = true := by decide +kernel
theorem ck02_6 : ck02 6 = true := by decide +kernel
theorem ck62_6 : ck62 6 = true := by decide +kernel
theorem ck12_6 : ck12 6 0 = true := by decide +kernel
theorem ck82_6 : arun skC2 skX2 (36, skH2 6 8, 10) [] [36, 155, 167] 69 36 (skH2 6 8) = true := by decide +kernel
