theorem ckN1_3 : ckN1 3 = true := by decide +kernel
theorem ck01_3 : ck01 3 = true := by decide +kernel
theorem ck61_3 : ck61 3 = true := by decide +kernel
theorem ck11_3 : ck11 3 0 = true := by decide +kernel
theorem ck81_3 : arun skC1 skX1 (36, skH1 3 8, 10) [] [36, 155, 167] 69 36 (skH1 3 8) = true := by decide +kernel
theorem ckN1_4 : ckN1 4 = true := by decide +kernel
theorem ck01_4 : ck01 4 = true := by decide +kernel
theorem ck61_4 : ck61 4 = true := by decide +kernel
theorem ck11_4 : ck11 4 0 = true := by decide +kernel
theorem ck81_4 : arun skC1 skX1 (36, skH1 4 8, 10) [] [36, 155, 167] 69 36 (skH1 4 8) = true := by decide +kernel
theorem ckN1_5 : ckN1 5 = true := by decide +kernel
theorem ck01_5 : ck01 5 = true := by decide +kernel
theorem ck61_5 : ck61 5 = true := by decide +kernel
theorem ck11_5 : ck11 5 0 = true := by decide +kernel
theorem ck81_5 : arun skC1 skX1 (36, skH1 5 8, 10) [] [36, 155, 167] 69 36 (skH1 5 8) = true := by decide +kernel
theorem ckN1_6 : ckN1 6 = true := by decide +kernel
theorem ck01_6 : ck01 6 = true := by decide +kernel
theorem ck61_6 : ck61 6 = true := by decide +kernel
theorem ck11_6 : ck11 6 0 = true := by decide +kernel
theorem ck81_6 : arun skC1 skX1 (36, skH1 6 8, 10) [] [36, 155, 167] 69 36 (skH1 6 8) = true := by decide +kernel
