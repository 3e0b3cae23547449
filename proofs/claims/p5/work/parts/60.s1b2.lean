theorem ckN1_11 : ckN1 11 = true := by decide +kernel
theorem ck01_11 : ck01 11 = true := by decide +kernel
theorem ck61_11 : ck61 11 = true := by decide +kernel
theorem ck11_11 : ck11 11 0 = true := by decide +kernel
theorem ck81_11 : arun skC1 skX1 (36, skH1 11 8, 10) [] [36, 155, 167] 69 36 (skH1 11 8) = true := by decide +kernel
theorem ckN1_12 : ckN1 12 = true := by decide +kernel
theorem ck01_12 : ck01 12 = true := by decide +kernel
theorem ck61_12 : ck61 12 = true := by decide +kernel
theorem ck11_12 : ck11 12 0 = true := by decide +kernel
theorem ck81_12 : arun skC1 skX1 (36, skH1 12 8, 10) [] [36, 155, 167] 69 36 (skH1 12 8) = true := by decide +kernel
theorem ckN1_13 : ckN1 13 = true := by decide +kernel
theorem ck01_13 : ck01 13 = true := by decide +kernel
theorem ck61_13 : ck61 13 = true := by decide +kernel
theorem ck11_13 : ck11 13 0 = true := by decide +kernel
theorem ck81_13 : arun skC1 skX1 (36, skH1 13 8, 10) [] [36, 155, 167] 69 36 (skH1 13 8) = true := by decide +kernel
theorem ckN1_14 : ckN1 14 = true := by decide +kernel
theorem ck01_14 : ck01 14 = true := by decide +kernel
theorem ck61_14 : ck61 14 = true := by decide +kernel
theorem ck11_14 : ck11 14 0 = true := by decide +kernel
theorem ck81_14 : arun skC1 skX1 (36, skH1 14 8, 10) [] [36, 155, 167] 69 36 (skH1 14 8) = true := by decide +kernel
