theorem ckN1_7 : ckN1 7 = true := by decide +kernel
theorem ck01_7 : ck01 7 = true := by decide +kernel
theorem ck61_7 : ck61 7 = true := by decide +kernel
theorem ck11_7 : ck11 7 0 = true := by decide +kernel
theorem ck81_7 : arun skC1 skX1 (36, skH1 7 8, 10) [] [36, 155, 167] 69 36 (skH1 7 8) = true := by decide +kernel
theorem ckN1_8 : ckN1 8 = true := by decide +kernel
theorem ck01_8 : ck01 8 = true := by decide +kernel
theorem ck61_8 : ck61 8 = true := by decide +kernel
theorem ck11_8 : ck11 8 0 = true := by decide +kernel
theorem ck81_8 : arun skC1 skX1 (36, skH1 8 8, 10) [] [36, 155, 167] 69 36 (skH1 8 8) = true := by decide +kernel
theorem ckN1_9 : ckN1 9 = true := by decide +kernel
theorem ck01_9 : ck01 9 = true := by decide +kernel
theorem ck61_9 : ck61 9 = true := by decide +kernel
theorem ck11_9 : ck11 9 0 = true := by decide +kernel
theorem ck81_9 : arun skC1 skX1 (36, skH1 9 8, 10) [] [36, 155, 167] 69 36 (skH1 9 8) = true := by decide +kernel
theorem ckN1_10 : ckN1 10 = true := by decide +kernel
theorem ck01_10 : ck01 10 = true := by decide +kernel
theorem ck61_10 : ck61 10 = true := by decide +kernel
theorem ck11_10 : ck11 10 0 = true := by decide +kernel
theorem ck81_10 : arun skC1 skX1 (36, skH1 10 8, 10) [] [36, 155, 167] 69 36 (skH1 10 8) = true := by decide +kernel
