theorem tk_35 : arun [tC410, tC420, tC413, tC411, tC270, tC269, tC268, tC422, tC271, tC412, tC272] tkX tkL35 [tkL36, tkL37] [170, 234, 469] 74 tkL35.1 tkL35.2.1 = true := by decide +kernel
theorem tk_36 : arun [tC410, tC420, tC413, tC411, tC270, tC269, tC268, tC422, tC271, tC412, tC272] tkX tkL36 [tkL37] [170, 234, 469] 74 tkL36.1 tkL36.2.1 = true := by decide +kernel
theorem tk_37 : arun [tC410, tC420, tC413, tC411, tC270, tC269, tC268, tC422, tC271, tC412, tC272] tkX tkL37 [] [170, 234, 469] 74 tkL37.1 tkL37.2.1 = true := by decide +kernel
