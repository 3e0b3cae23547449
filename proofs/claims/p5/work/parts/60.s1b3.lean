theorem ckN1_15 : ckN1 15 = true := by decide +kernel
theorem ck01_15 : ck01 15 = true := by decide +kernel
theorem ck61_15 : ck61 15 = true := by decide +kernel
theorem ck11_15 : ck11 15 0 = true := by decide +kernel
theorem ck81_15 : arun skC1 skX1 (36, skH1 15 8, 10) [] [36, 155, 167] 69 36 (skH1 15 8) = true := by decide +kernel
theorem ckN1_16 : ckN1 16 = true := by decide +kernel
theorem ck01_16 : ck01 16 = true := by decide +kernel
theorem ck61_16 : ck61 16 = true := by decide +kernel
theorem ck11_16 : ck11 16 0 = true := by decide +kernel
theorem ck81_16 : arun skC1 skX1 (36, skH1 16 8, 10) [] [36, 155, 167] 69 36 (skH1 16 8) = true := by decide +kernel
theorem ckN1_17 : ckN1 17 = true := by decide +kernel
theorem ck01_17 : ck01 17 = true := by decide +kernel
theorem ck61_17 : ck61 17 = true := by decide +kernel
theorem ck11_17 : ck11 17 0 = true := by decide +kernel
theorem ck81_17 : arun skC1 skX1 (36, skH1 17 8, 10) [] [36, 155, 167] 69 36 (skH1 17 8) = true := by decide +kernel
theorem ckN1_18 : ckN1 18 = true := by decide +kernel
theorem ck01_18 : ck01 18 = true := by decide +kernel
theorem ck61_18 : ck61 18 = true := by decide +kernel
theorem ck11_18 : ck11 18 0 = true := by decide +kernel
theorem ck81_18 : arun skC1 skX1 (36, skH1 18 8, 10) [] [36, 155, 167] 69 36 (skH1 18 8) = true := by decide +kernel
