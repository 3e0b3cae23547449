set_option maxHeartbeats 4000000 in
theorem x_start {s : State} {args : Array Value} (hts : ∀ w ∈ lw_tbl, w.before args s = true) : ∃ (D : va_G) (cy : Nat → ClassId), xK D cy s := by
  have hG : ∀ w ∈ xG, w.before args s = true := fun w h => hts w (List.mem_filter.mp h).1
  obtain ⟨c0, i0, h0⟩ := u_known (C := RX0) (T := TX0) (N := 5) (n := 5) hG iG0 (hG _ gw178)
  obtain ⟨c1, i1, h1⟩ := u_known (C := RX1) (T := TX1) (N := 2) (n := 2) hG iG1 (hG _ gw252)
  obtain ⟨c2, i2, h2⟩ := u_known (C := RX2) (T := TX2) (N := 10) (n := 10) hG iG2 (hG _ gw259)
  obtain ⟨c3, i3, h3⟩ := u_known (C := RX3) (T := TX3) (N := 16) (n := 16) hG iG3 (hG _ gw172)
  obtain ⟨c4, i4, h4⟩ := u_known (C := RX4) (T := TX4) (N := 6) (n := 6) hG iG4 (hG _ gw210)
  obtain ⟨c5, i5, h5⟩ := u_known (C := RX5) (T := TX5) (N := 6) (n := 6) hG iG5 (hG _ gw32)
  obtain ⟨c6, i6, h6⟩ := u_known (C := RX6) (T := TX6) (N := 5) (n := 5) hG iG6 (hG _ gw335)
  obtain ⟨c7, i7, h7⟩ := u_known (C := RX7) (T := TX7) (N := 9) (n := 9) hG iG7 (hG _ gw65)
  obtain ⟨c8, i8, h8⟩ := u_known (C := RX8) (T := TX8) (N := 2) (n := 2) hG iG8 (hG _ gw368)
  obtain ⟨c9, i9, h9⟩ := u_known (C := RX9) (T := TX9) (N := 2) (n := 2) hG iG9 (hG _ gw316)
  obtain ⟨c10, i10, h10⟩ := u_known (C := RX10) (T := TX10) (N := 6) (n := 6) hG iG10 (hG _ gw91)
  obtain ⟨c11, i11, h11⟩ := u_known (C := RX11) (T := TX11) (N := 2) (n := 2) hG iG11 (hG _ gw73)
  obtain ⟨c12, i12, h12⟩ := u_known (C := RX12) (T := TX12) (N := 10) (n := 10) hG iG12 (hG _ gw22)
  obtain ⟨c13, i13, h13⟩ := u_known (C := RX13) (T := TX13) (N := 68) (n := 68) hG iG13 (hG _ gw1116)
  obtain ⟨a0, k0, p0, f0, g0, e0⟩ := Cond.arrayClass_spec (type := .byte) (hG _ gw62)
  obtain ⟨a1, k1, p1, f1, g1, e1⟩ := Cond.arrayClass_spec (type := .int) (hG _ gw63)
  obtain ⟨a2, k2, p2, f2, g2, e2⟩ := Cond.arrayClass_spec (type := .long) (hG _ gw1328)
  obtain ⟨a3, k3, p3, f3, g3, e3⟩ := Cond.arrayClass_spec (type := .boolean) (hG _ gw1327)
  have o4 : (Cond.arrayOver (.object RX2)).before args s = true := hts _ (List.mem_append_right _ (List.mem_of_getElem? (i := 258) (show tables_1[258]? = some (Cond.arrayOver (.object RX2)) by decide +kernel)))
  obtain ⟨p4, a4, k4, b4, n4, g4, e4, f4⟩ := Cond.arrayOver_spec o4
  have o5 : (Cond.arrayOver (.object RX3)).before args s = true := hts _ (List.mem_append_right _ (List.mem_of_getElem? (i := 30) (show tables_1[30]? = some (Cond.arrayOver (.object RX3)) by decide +kernel)))
  obtain ⟨p5, a5, k5, b5, n5, g5, e5, f5⟩ := Cond.arrayOver_spec o5
  have o6 : (Cond.arrayOver (.object RX5)).before args s = true := hts _ (List.mem_append_right _ (List.mem_of_getElem? (i := 170) (show tables_1[170]? = some (Cond.arrayOver (.object RX5)) by decide +kernel)))
  obtain ⟨p6, a6, k6, b6, n6, g6, e6, f6⟩ := Cond.arrayOver_spec o6
  have o7 : (Cond.arrayOver (.object RX6)).before args s = true := hts _ (List.mem_append_right _ (List.mem_of_getElem? (i := 248) (show tables_1[248]? = some (Cond.arrayOver (.object RX6)) by decide +kernel)))
  obtain ⟨p7, a7, k7, b7, n7, g7, e7, f7⟩ := Cond.arrayOver_spec o7
  have o8 : (Cond.arrayOver (.object RX8)).before args s = true := hts _ (List.mem_append_right _ (List.mem_of_getElem? (i := 250) (show tables_1[250]? = some (Cond.arrayOver (.object RX8)) by decide +kernel)))
  obtain ⟨p8, a8, k8, b8, n8, g8, e8, f8⟩ := Cond.arrayOver_spec o8
  have o9 : (Cond.arrayOver (.object RX9)).before args s = true := hts _ (List.mem_append_right _ (List.mem_of_getElem? (i := 246) (show tables_1[246]? = some (Cond.arrayOver (.object RX9)) by decide +kernel)))
  obtain ⟨p9, a9, k9, b9, n9, g9, e9, f9⟩ := Cond.arrayOver_spec o9
  have o10 : (Cond.arrayOver (.object RX10)).before args s = true := hts _ (List.mem_append_right _ (List.mem_of_getElem? (i := 71) (show tables_1[71]? = some (Cond.arrayOver (.object RX10)) by decide +kernel)))
  obtain ⟨p10, a10, k10, b10, n10, g10, e10, f10⟩ := Cond.arrayOver_spec o10
  refine ⟨(fun k => [c0, c1, c2, c3, c4, c5, c6, c7, c8, c9, c10, c11, c12, c13].getD k c0, fun k => [i0, i1, i2, i3, i4, i5, i6, i7, i8, i9, i10, i11, i12, i13].getD k i0), fun k => [a0, a1, a2, a3, a4, a5, a6, a7, a8, a9, a10].getD k a0, ⟨⟨?_, ?_⟩, ?_, ?_⟩⟩
  · intro k q hq
    match k, hq with
    | 0, hq => cases hq; exact h0
    | 1, hq => cases hq; exact h1
    | 2, hq => cases hq; exact h2
    | 3, hq => cases hq; exact h3
    | 4, hq => cases hq; exact h4
    | 5, hq => cases hq; exact h5
    | 6, hq => cases hq; exact h6
    | 7, hq => cases hq; exact h7
    | 8, hq => cases hq; exact h8
    | 9, hq => cases hq; exact h9
    | 10, hq => cases hq; exact h10
    | 11, hq => cases hq; exact h11
    | 12, hq => cases hq; exact h12
    | 13, hq => cases hq; exact h13
    | k + 14, hq => simp [vwCl] at hq
  · intro k q hq
    match k, hq with
    | 0, hq => cases hq; exact ⟨fun n z => ⟨fun k h => (by cases h), k0, g0, p0, e0⟩, f0⟩
    | 1, hq => cases hq; exact ⟨fun n z => ⟨fun k h => (by cases h), k1, g1, p1, e1⟩, f1⟩
    | 2, hq => cases hq; exact ⟨fun n z => ⟨fun k h => (by cases h), k2, g2, p2, e2⟩, f2⟩
    | 3, hq => cases hq; exact ⟨fun n z => ⟨fun k h => (by cases h), k3, g3, p3, e3⟩, f3⟩
    | 4, hq => cases hq; exact ⟨fun n z => ⟨fun k h => (by cases h), k4, g4, p4, e4⟩, ⟨k4, p4, g4, e4, b4, f4⟩⟩
    | 5, hq => cases hq; exact ⟨fun n z => ⟨fun k h => (by cases h), k5, g5, p5, e5⟩, ⟨k5, p5, g5, e5, b5, f5⟩⟩
    | 6, hq => cases hq; exact ⟨fun n z => ⟨fun k h => (by cases h), k6, g6, p6, e6⟩, ⟨k6, p6, g6, e6, b6, f6⟩⟩
    | 7, hq => cases hq; exact ⟨fun n z => ⟨fun k h => (by cases h), k7, g7, p7, e7⟩, ⟨k7, p7, g7, e7, b7, f7⟩⟩
    | 8, hq => cases hq; exact ⟨fun n z => ⟨fun k h => (by cases h), k8, g8, p8, e8⟩, ⟨k8, p8, g8, e8, b8, f8⟩⟩
    | 9, hq => cases hq; exact ⟨fun n z => ⟨fun k h => (by cases h), k9, g9, p9, e9⟩, ⟨k9, p9, g9, e9, b9, f9⟩⟩
    | 10, hq => cases hq; exact ⟨fun n z => ⟨fun k h => (by cases h), k10, g10, p10, e10⟩, ⟨k10, p10, g10, e10, b10, f10⟩⟩
    | k + 11, hq => simp [xT] at hq
  · exact List.forall_mem_cons.mpr ⟨va_AO.of o4, List.forall_mem_cons.mpr ⟨va_AO.of o5, List.forall_mem_cons.mpr ⟨va_AO.of o6, List.forall_mem_cons.mpr ⟨va_AO.of o7, List.forall_mem_cons.mpr ⟨va_AO.of o8, List.forall_mem_cons.mpr ⟨va_AO.of o9, List.forall_mem_cons.mpr ⟨va_AO.of o10, fun _ h => nomatch h⟩⟩⟩⟩⟩⟩⟩
  · exact List.forall_mem_cons.mpr ⟨va_Nw.of rfl (hts (Cond.methodLinkNest RX12 17 yX5_init RX12) (List.mem_append_right _ (List.mem_of_getElem? (i := 33) (show tables_1[33]? = some (Cond.methodLinkNest RX12 17 yX5_init RX12) by decide +kernel)))), List.forall_mem_cons.mpr ⟨va_Nw.of rfl (hts (Cond.methodLinkNest RX7 19 yX11_init RX12) (List.mem_append_right _ (List.mem_of_getElem? (i := 74) (show tables_1[74]? = some (Cond.methodLinkNest RX7 19 yX11_init RX12) by decide +kernel)))), List.forall_mem_cons.mpr ⟨va_Nw.of rfl (hts (Cond.methodLinkNest RX7 47 yX10_init RX12) (List.mem_append_right _ (List.mem_of_getElem? (i := 92) (show tables_1[92]? = some (Cond.methodLinkNest RX7 47 yX10_init RX12) by decide +kernel)))), List.forall_mem_cons.mpr ⟨va_Nw.of rfl (hts (Cond.methodLinkNest RX10 9 yX11_init RX12) (List.mem_append_right _ (List.mem_of_getElem? (i := 97) (show tables_1[97]? = some (Cond.methodLinkNest RX10 9 yX11_init RX12) by decide +kernel)))), List.forall_mem_cons.mpr ⟨va_Nw.of rfl (hts (Cond.methodLinkNest RX3 11 yX0_init RX12) (List.mem_append_right _ (List.mem_of_getElem? (i := 179) (show tables_1[179]? = some (Cond.methodLinkNest RX3 11 yX0_init RX12) by decide +kernel)))), List.forall_mem_cons.mpr ⟨va_Nw.of rfl (hts (Cond.methodLinkNest RX3 20 yX4_init RX12) (List.mem_append_right _ (List.mem_of_getElem? (i := 211) (show tables_1[211]? = some (Cond.methodLinkNest RX3 20 yX4_init RX12) by decide +kernel)))), List.forall_mem_cons.mpr ⟨va_Nw.of rfl (hts (Cond.methodLinkNest RX4 11 yX11_init RX12) (List.mem_append_right _ (List.mem_of_getElem? (i := 216) (show tables_1[216]? = some (Cond.methodLinkNest RX4 11 yX11_init RX12) by decide +kernel)))), List.forall_mem_cons.mpr ⟨va_Nw.of rfl (hts (Cond.methodLinkNest RX1 21 yX2_init RX12) (List.mem_append_right _ (List.mem_of_getElem? (i := 260) (show tables_1[260]? = some (Cond.methodLinkNest RX1 21 yX2_init RX12) by decide +kernel)))), List.forall_mem_cons.mpr ⟨va_Nw.of rfl (hts (Cond.methodLinkNest RX2 11 yX11_init RX12) (List.mem_append_right _ (List.mem_of_getElem? (i := 265) (show tables_1[265]? = some (Cond.methodLinkNest RX2 11 yX11_init RX12) by decide +kernel)))), List.forall_mem_cons.mpr ⟨va_Nw.of rfl (hts (Cond.methodLinkNest RX3 82 yX9_init RX12) (List.mem_append_right _ (List.mem_of_getElem? (i := 317) (show tables_1[317]? = some (Cond.methodLinkNest RX3 82 yX9_init RX12) by decide +kernel)))), List.forall_mem_cons.mpr ⟨va_Nw.of rfl (hts (Cond.methodLinkNest RX9 9 yX11_init RX12) (List.mem_append_right _ (List.mem_of_getElem? (i := 322) (show tables_1[322]? = some (Cond.methodLinkNest RX9 9 yX11_init RX12) by decide +kernel)))), List.forall_mem_cons.mpr ⟨va_Nw.of rfl (hts (Cond.methodLinkNest RX3 83 yX6_init RX12) (List.mem_append_right _ (List.mem_of_getElem? (i := 336) (show tables_1[336]? = some (Cond.methodLinkNest RX3 83 yX6_init RX12) by decide +kernel)))), List.forall_mem_cons.mpr ⟨va_Nw.of rfl (hts (Cond.methodLinkNest RX6 9 yX11_init RX12) (List.mem_append_right _ (List.mem_of_getElem? (i := 341) (show tables_1[341]? = some (Cond.methodLinkNest RX6 9 yX11_init RX12) by decide +kernel)))), List.forall_mem_cons.mpr ⟨va_Nw.of rfl (hts (Cond.methodLinkNest RX3 84 yX8_init RX12) (List.mem_append_right _ (List.mem_of_getElem? (i := 369) (show tables_1[369]? = some (Cond.methodLinkNest RX3 84 yX8_init RX12) by decide +kernel)))), List.forall_mem_cons.mpr ⟨va_Nw.of rfl (hts (Cond.methodLinkNest RX8 9 yX11_init RX12) (List.mem_append_right _ (List.mem_of_getElem? (i := 374) (show tables_1[374]? = some (Cond.methodLinkNest RX8 9 yX11_init RX12) by decide +kernel)))), fun _ h => nomatch h⟩⟩⟩⟩⟩⟩⟩⟩⟩⟩⟩⟩⟩⟩⟩
