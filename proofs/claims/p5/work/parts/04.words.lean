theorem xin1 {w : Cond} (i : Nat) (h : tables_1_1[i]? = some w) (g : goodWord w = true) : w ∈ xG := List.mem_filter.mpr ⟨List.mem_append_right _ (List.mem_append_left _ (List.mem_of_getElem? h)), g⟩
theorem xin2 {w : Cond} (i : Nat) (h : tables_1_2[i]? = some w) (g : goodWord w = true) : w ∈ xG := List.mem_filter.mpr ⟨List.mem_append_right _ (List.mem_append_right _ (List.mem_append_left _ (List.mem_of_getElem? h))), g⟩
theorem xin3 {w : Cond} (i : Nat) (h : tables_1_3[i]? = some w) (g : goodWord w = true) : w ∈ xG := List.mem_filter.mpr ⟨List.mem_append_right _ (List.mem_append_right _ (List.mem_append_right _ (List.mem_append_left _ (List.mem_of_getElem? h)))), g⟩
theorem xin4 {w : Cond} (i : Nat) (h : tables_1_4[i]? = some w) (g : goodWord w = true) : w ∈ xG := List.mem_filter.mpr ⟨List.mem_append_right _ (List.mem_append_right _ (List.mem_append_right _ (List.mem_append_right _ (List.mem_append_left _ (List.mem_of_getElem? h))))), g⟩
theorem xin5 {w : Cond} (i : Nat) (h : tables_1_5[i]? = some w) (g : goodWord w = true) : w ∈ xG := List.mem_filter.mpr ⟨List.mem_append_right _ (List.mem_append_right _ (List.mem_append_right _ (List.mem_append_right _ (List.mem_append_right _ (List.mem_append_left _ (List.mem_of_getElem? h)))))), g⟩
theorem xin6 {w : Cond} (i : Nat) (h : tables_1_6[i]? = some w) (g : goodWord w = true) : w ∈ xG := List.mem_filter.mpr ⟨List.mem_append_right _ (List.mem_append_right _ (List.mem_append_right _ (List.mem_append_right _ (List.mem_append_right _ (List.mem_append_right _ (List.mem_append_left _ (List.mem_of_getElem? h))))))), g⟩
theorem xin7 {w : Cond} (i : Nat) (h : tables_1_7[i]? = some w) (g : goodWord w = true) : w ∈ xG := List.mem_filter.mpr ⟨List.mem_append_right _ (List.mem_append_right _ (List.mem_append_right _ (List.mem_append_right _ (List.mem_append_right _ (List.mem_append_right _ (List.mem_append_right _ (List.mem_of_getElem? h))))))), g⟩
theorem iG0 : ∀ w ∈ wsX00, w ∈ xG := xall _ [198, 200, 202, 204, 206] (by decide +kernel) (by decide +kernel)
def df0 : List Value := [.int 0, .int 0, .int 0, .long 0, .long 0]
theorem nf0 : ∀ j, j < 5 → defaultValue (tyX0 j) = vp_V df0 j := by decide +kernel
theorem iG1 : ∀ w ∈ wsX10, w ∈ xG := xall _ [311, 313] (by decide +kernel) (by decide +kernel)
def df1 : List Value := [.null, .int 0]
theorem nf1 : ∀ j, j < 2 → defaultValue (tyX1 j) = vp_V df1 j := by decide +kernel
theorem iG2 : ∀ w ∈ wsX20, w ∈ xG := xall _ [284, 286, 288, 290, 292, 294, 296, 298, 300, 302] (by decide +kernel) (by decide +kernel)
def df2 : List Value := [.null, .null, .int 0, .int 0, .int 0, .int 0, .long 0, .long 0, .long 0, .int 0]
theorem nf2 : ∀ j, j < 10 → defaultValue (tyX2 j) = vp_V df2 j := by decide +kernel
theorem iG3 : ∀ w ∈ wsX30, w ∈ xG := xall _ [420, 422, 424, 426, 428, 430, 432, 434, 436, 438, 440, 442, 444, 446, 448, 450] (by decide +kernel) (by decide +kernel)
def df3 : List Value := [.int 0, .null, .null, .null, .null, .null, .null, .int 0, .int 0, .int 0, .int 0, .int 0, .int 0, .int 0, .int 0, .int 0]
theorem nf3 : ∀ j, j < 16 → defaultValue (tyX3 j) = vp_V df3 j := by decide +kernel
theorem iG4 : ∀ w ∈ wsX40, w ∈ xG := xall _ [232, 234, 236, 238, 240, 242] (by decide +kernel) (by decide +kernel)
def df4 : List Value := [.null, .null, .int 0, .int 0, .int 0, .long 0]
theorem nf4 : ∀ j, j < 6 → defaultValue (tyX4 j) = vp_V df4 j := by decide +kernel
theorem iG5 : ∀ w ∈ wsX50, w ∈ xG := xall _ [49, 51, 53, 55, 57, 59] (by decide +kernel) (by decide +kernel)
def df5 : List Value := [.null, .null, .int 0, .int 0, .int 0, .int 0]
theorem nf5 : ∀ j, j < 6 → defaultValue (tyX5 j) = vp_V df5 j := by decide +kernel
theorem iG6 : ∀ w ∈ wsX60, w ∈ xG := xall _ [357, 359, 361, 363, 365] (by decide +kernel) (by decide +kernel)
def df6 : List Value := [.null, .int 0, .int 0, .int 0, .long 0]
theorem nf6 : ∀ j, j < 5 → defaultValue (tyX6 j) = vp_V df6 j := by decide +kernel
theorem iG7 : ∀ w ∈ wsX70, w ∈ xG := xall _ [151, 153, 155, 157, 159, 161, 163, 165, 167] (by decide +kernel) (by decide +kernel)
def df7 : List Value := [.null, .null, .int 0, .int 0, .int 0, .int 0, .int 0, .int 0, .int 0]
theorem nf7 : ∀ j, j < 9 → defaultValue (tyX7 j) = vp_V df7 j := by decide +kernel
theorem iG8 : ∀ w ∈ wsX80, w ∈ xG := xall _ [381, 383] (by decide +kernel) (by decide +kernel)
def df8 : List Value := [.null, .long 0]
theorem nf8 : ∀ j, j < 2 → defaultValue (tyX8 j) = vp_V df8 j := by decide +kernel
theorem iG9 : ∀ w ∈ wsX90, w ∈ xG := xall _ [330, 332] (by decide +kernel) (by decide +kernel)
def df9 : List Value := [.null, .int 0]
theorem nf9 : ∀ j, j < 2 → defaultValue (tyX9 j) = vp_V df9 j := by decide +kernel
theorem iG10 : ∀ w ∈ wsX100, w ∈ xG := xall _ [122, 124, 126, 128, 130, 132] (by decide +kernel) (by decide +kernel)
def df10 : List Value := [.null, .null, .int 0, .int 0, .int 0, .int 0]
theorem nf10 : ∀ j, j < 6 → defaultValue (tyX10 j) = vp_V df10 j := by decide +kernel
theorem iG11 : ∀ w ∈ wsX110, w ∈ xG := xall _ [86, 88] (by decide +kernel) (by decide +kernel)
def df11 : List Value := [.null, .int 0]
theorem nf11 : ∀ j, j < 2 → defaultValue (tyX11 j) = vp_V df11 j := by decide +kernel
theorem iG12 : ∀ w ∈ wsX120, w ∈ xG := xall _ [463, 465, 467, 469, 471, 473, 475, 477, 479, 481] (by decide +kernel) (by decide +kernel)
def df12 : List Value := [.null, .null, .null, .null, .null, .int 0, .int 0, .null, .long 0, .long 0]
theorem nf12 : ∀ j, j < 10 → defaultValue (tyX12 j) = vp_V df12 j := by decide +kernel
theorem iG13 : ∀ w ∈ wsX130, w ∈ xG := xall _ [1190, 1192, 1194, 1196, 1198, 1200, 1202, 1204, 1206, 1208, 1210, 1212, 1214, 1216, 1218, 1220, 1222, 1224, 1226, 1228, 1230, 1232, 1234, 1236, 1238, 1240, 1242, 1244, 1246, 1248, 1250, 1252, 1254, 1256, 1258, 1260, 1262, 1264, 1266, 1268, 1270, 1272, 1274, 1276, 1278, 1280, 1282, 1284, 1286, 1288, 1290, 1292, 1294, 1296, 1298, 1300, 1302, 1304, 1306, 1308, 1310, 1312, 1314, 1316, 1318, 1320, 1322, 1324] (by decide +kernel) (by decide +kernel)
def df13 : List Value := [.long 0, .null, .int 0, .int 0, .null, .null, .null, .null, .null, .null, .null, .null, .null, .null, .null, .null, .null, .null, .null, .null, .null, .null, .null, .null, .null, .null, .null, .null, .null, .null, .null, .null, .null, .null, .null, .null, .null, .null, .null, .null, .null, .null, .null, .null, .null, .null, .int 0, .int 0, .null, .null, .int 0, .null, .null, .int 0, .null, .int 0, .null, .null, .int 0, .int 0, .int 0, .null, .null, .null, .null, .null, .null, .null]
theorem nf13 : ∀ j, j < 68 → defaultValue (tyX13 j) = vp_V df13 j := by decide +kernel
theorem nx0 {D : va_G} {cy : Nat → ClassId} {U : State} (h : xK D cy U) : va_Nw (.methodLinkNest RX12 17 yX5_init RX12) U := h.2.2 _ (List.mem_of_getElem? (i := 0) rfl)
theorem nx1 {D : va_G} {cy : Nat → ClassId} {U : State} (h : xK D cy U) : va_Nw (.methodLinkNest RX7 19 yX11_init RX12) U := h.2.2 _ (List.mem_of_getElem? (i := 1) rfl)
theorem nx2 {D : va_G} {cy : Nat → ClassId} {U : State} (h : xK D cy U) : va_Nw (.methodLinkNest RX7 47 yX10_init RX12) U := h.2.2 _ (List.mem_of_getElem? (i := 2) rfl)
theorem nx3 {D : va_G} {cy : Nat → ClassId} {U : State} (h : xK D cy U) : va_Nw (.methodLinkNest RX10 9 yX11_init RX12) U := h.2.2 _ (List.mem_of_getElem? (i := 3) rfl)
theorem nx4 {D : va_G} {cy : Nat → ClassId} {U : State} (h : xK D cy U) : va_Nw (.methodLinkNest RX3 11 yX0_init RX12) U := h.2.2 _ (List.mem_of_getElem? (i := 4) rfl)
theorem nx5 {D : va_G} {cy : Nat → ClassId} {U : State} (h : xK D cy U) : va_Nw (.methodLinkNest RX3 20 yX4_init RX12) U := h.2.2 _ (List.mem_of_getElem? (i := 5) rfl)
theorem nx6 {D : va_G} {cy : Nat → ClassId} {U : State} (h : xK D cy U) : va_Nw (.methodLinkNest RX4 11 yX11_init RX12) U := h.2.2 _ (List.mem_of_getElem? (i := 6) rfl)
theorem nx7 {D : va_G} {cy : Nat → ClassId} {U : State} (h : xK D cy U) : va_Nw (.methodLinkNest RX1 21 yX2_init RX12) U := h.2.2 _ (List.mem_of_getElem? (i := 7) rfl)
theorem nx8 {D : va_G} {cy : Nat → ClassId} {U : State} (h : xK D cy U) : va_Nw (.methodLinkNest RX2 11 yX11_init RX12) U := h.2.2 _ (List.mem_of_getElem? (i := 8) rfl)
theorem nx9 {D : va_G} {cy : Nat → ClassId} {U : State} (h : xK D cy U) : va_Nw (.methodLinkNest RX3 82 yX9_init RX12) U := h.2.2 _ (List.mem_of_getElem? (i := 9) rfl)
theorem nx10 {D : va_G} {cy : Nat → ClassId} {U : State} (h : xK D cy U) : va_Nw (.methodLinkNest RX9 9 yX11_init RX12) U := h.2.2 _ (List.mem_of_getElem? (i := 10) rfl)
theorem nx11 {D : va_G} {cy : Nat → ClassId} {U : State} (h : xK D cy U) : va_Nw (.methodLinkNest RX3 83 yX6_init RX12) U := h.2.2 _ (List.mem_of_getElem? (i := 11) rfl)
theorem nx12 {D : va_G} {cy : Nat → ClassId} {U : State} (h : xK D cy U) : va_Nw (.methodLinkNest RX6 9 yX11_init RX12) U := h.2.2 _ (List.mem_of_getElem? (i := 12) rfl)
theorem nx13 {D : va_G} {cy : Nat → ClassId} {U : State} (h : xK D cy U) : va_Nw (.methodLinkNest RX3 84 yX8_init RX12) U := h.2.2 _ (List.mem_of_getElem? (i := 13) rfl)
theorem nx14 {D : va_G} {cy : Nat → ClassId} {U : State} (h : xK D cy U) : va_Nw (.methodLinkNest RX8 9 yX11_init RX12) U := h.2.2 _ (List.mem_of_getElem? (i := 14) rfl)
theorem ao2 {D : va_G} {cy : Nat → ClassId} {U : State} (h : xK D cy U) : va_AO RX2 U := h.2.1 _ (List.mem_of_getElem? (i := 0) rfl)
theorem ao3 {D : va_G} {cy : Nat → ClassId} {U : State} (h : xK D cy U) : va_AO RX3 U := h.2.1 _ (List.mem_of_getElem? (i := 1) rfl)
theorem ao5 {D : va_G} {cy : Nat → ClassId} {U : State} (h : xK D cy U) : va_AO RX5 U := h.2.1 _ (List.mem_of_getElem? (i := 2) rfl)
theorem ao6 {D : va_G} {cy : Nat → ClassId} {U : State} (h : xK D cy U) : va_AO RX6 U := h.2.1 _ (List.mem_of_getElem? (i := 3) rfl)
theorem ao8 {D : va_G} {cy : Nat → ClassId} {U : State} (h : xK D cy U) : va_AO RX8 U := h.2.1 _ (List.mem_of_getElem? (i := 4) rfl)
theorem ao9 {D : va_G} {cy : Nat → ClassId} {U : State} (h : xK D cy U) : va_AO RX9 U := h.2.1 _ (List.mem_of_getElem? (i := 5) rfl)
theorem ao10 {D : va_G} {cy : Nat → ClassId} {U : State} (h : xK D cy U) : va_AO RX10 U := h.2.1 _ (List.mem_of_getElem? (i := 6) rfl)
