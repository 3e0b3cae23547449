theorem pc_probes {t n : Nat} {A : Nat → Nat} {hh : Int32} {σ : ps} {x : Option Value × ps} (W : Wld t A σ) (h : prun n 154 0 (lv_args 0 [.ref t, .int hh]) [] σ = some x) : x.1 = none ∧ SP t A σ x.2 ∧ ∀ j q : Nat, ¬ ((j = 12 ∨ j = 13 ∨ j = 14) ∧ q = hh.toNatClampNeg) → vw t A x.2 j q = vw t A σ j q := by
  have h : prun n 154 0 [(0, .ref t), (1, .int hh)] [] σ = some x := h
  obtain ⟨n1, l1, h⟩ := v_al h (by decide +kernel : pins 154 0 = some (5, 1, 0, 0, [])) (v := t) rfl
  obtain ⟨n2, l2, h⟩ := w_row (k := 13) W h (by decide +kernel : pins 154 1 = some (22, 4, 13, 13, [])) (by decide)
  obtain ⟨n3, l3, h⟩ := v_il h (by decide +kernel : pins 154 4 = some (3, 5, 1, 0, [])) (v := hh) rfl
  obtain ⟨n4, w5, l4, ⟨e5, i5⟩, h⟩ := u_ic h (by decide +kernel : pins 154 5 = some (0, 6, 0, 0, [])) (by decide)
  obtain ⟨n5, s6, l5, b6, S6, u6, h⟩ := w_bast W h (by decide +kernel : pins 154 6 = some (29, 7, 0, 0, [])) (by decide) (by decide)
  obtain ⟨n6, l6, h⟩ := v_al h (by decide +kernel : pins 154 7 = some (5, 8, 0, 0, [])) (v := t) rfl
  obtain ⟨n7, l7, h⟩ := w_row (k := 12) S6.1 h (by decide +kernel : pins 154 8 = some (22, 11, 13, 12, [])) (by decide)
  obtain ⟨n8, l8, h⟩ := v_il h (by decide +kernel : pins 154 11 = some (3, 12, 1, 0, [])) (v := hh) rfl
  obtain ⟨n9, w12, l9, ⟨e12, i12⟩, h⟩ := u_ic h (by decide +kernel : pins 154 12 = some (0, 13, 0, 0, [])) (by decide)
  obtain ⟨n10, s13, l10, b13, S13, u13, h⟩ := w_iast S6.1 h (by decide +kernel : pins 154 13 = some (28, 14, 0, 0, [])) (by decide)
  obtain ⟨n11, l11, h⟩ := v_al h (by decide +kernel : pins 154 14 = some (5, 15, 0, 0, [])) (v := t) rfl
  obtain ⟨n12, l12, h⟩ := w_row (k := 14) S13.1 h (by decide +kernel : pins 154 15 = some (22, 18, 13, 14, [])) (by decide)
  obtain ⟨n13, l13, h⟩ := v_il h (by decide +kernel : pins 154 18 = some (3, 19, 1, 0, [])) (v := hh) rfl
  obtain ⟨n14, l14, h⟩ := v_al h (by decide +kernel : pins 154 19 = some (5, 20, 0, 0, [])) (v := t) rfl
  obtain ⟨n15, w20, l15, e20, h⟩ := w_fl S13.1 h (by decide +kernel : pins 154 20 = some (22, 23, 13, 0, []))
  obtain ⟨n16, w23, l16, e23, h⟩ := u_lc h (by decide +kernel : pins 154 23 = some (1, 26, 31, 0, []))
  have i23 : w23.toInt = 31 := by rw [e23]; decide
  obtain ⟨n17, l17, h⟩ := v_al h (by decide +kernel : pins 154 26 = some (5, 27, 0, 0, [])) (v := t) rfl
  obtain ⟨n18, l18, h⟩ := w_row (k := 5) S13.1 h (by decide +kernel : pins 154 27 = some (22, 30, 13, 5, [])) (by decide)
  obtain ⟨n19, l19, h⟩ := v_il h (by decide +kernel : pins 154 30 = some (3, 31, 1, 0, [])) (v := hh) rfl
  obtain ⟨n20, w31, l20, b31, e31, h⟩ := w_iald S13.1 h (by decide +kernel : pins 154 31 = some (24, 32, 0, 0, [])) (by decide)
  obtain ⟨n21, w32, l21, e32, h⟩ := u_i2l h (by decide +kernel : pins 154 32 = some (13, 33, 0, 0, []))
  obtain ⟨n22, w33, l22, e33, h⟩ := u_lmul h (by decide +kernel : pins 154 33 = some (11, 34, 2, 0, []))
  obtain ⟨n23, w34, l23, e34, h⟩ := u_lc h (by decide +kernel : pins 154 34 = some (1, 37, 17, 0, []))
  have i34 : w34.toInt = 17 := by rw [e34]; decide
  obtain ⟨n24, l24, h⟩ := v_al h (by decide +kernel : pins 154 37 = some (5, 38, 0, 0, [])) (v := t) rfl
  obtain ⟨n25, l25, h⟩ := w_row (k := 7) S13.1 h (by decide +kernel : pins 154 38 = some (22, 41, 13, 7, [])) (by decide)
  obtain ⟨n26, l26, h⟩ := v_il h (by decide +kernel : pins 154 41 = some (3, 42, 1, 0, [])) (v := hh) rfl
  obtain ⟨n27, w42, l27, b42, e42, h⟩ := w_iald S13.1 h (by decide +kernel : pins 154 42 = some (24, 43, 0, 0, [])) (by decide)
  obtain ⟨n28, w43, l28, e43, h⟩ := u_i2l h (by decide +kernel : pins 154 43 = some (13, 44, 0, 0, []))
  obtain ⟨n29, w44, l29, e44, h⟩ := u_lmul h (by decide +kernel : pins 154 44 = some (11, 45, 2, 0, []))
  obtain ⟨n30, w45, l30, e45, h⟩ := u_ladd h (by decide +kernel : pins 154 45 = some (11, 46, 0, 0, []))
  obtain ⟨n31, w46, l31, e46, h⟩ := u_lc h (by decide +kernel : pins 154 46 = some (1, 49, 200, 0, []))
  have i46 : w46.toInt = 200 := by rw [e46]; decide
  obtain ⟨n32, w49, l32, e49, h⟩ := u_lrem h (by decide +kernel : pins 154 49 = some (11, 50, 4, 0, [])) (by rw [e46]; decide)
  obtain ⟨n33, w50, l33, e50, h⟩ := u_ladd h (by decide +kernel : pins 154 50 = some (11, 51, 0, 0, []))
  obtain ⟨n34, s51, l34, b51, S51, u51, h⟩ := w_last S13.1 h (by decide +kernel : pins 154 51 = some (30, 52, 0, 0, [])) (by decide)
  have ex := u_ret37 h (by decide +kernel : pins 154 52 = some (37, 53, 0, 0, []))
  subst ex
  refine ⟨rfl, ((S6.tr S13).tr S51), fun j q hj => ?_⟩
  show vw t A s51 j q = _
  have z : ∀ (V : Nat → Nat → Value) (r : Nat) (v : Value), isRw r = true → (¬ (j = r ∧ q = hh.toNatClampNeg)) → up V r hh.toNatClampNeg v j q = V j q := fun V r v hr h => by
    by_cases e : j = r
    · subst e; exact up_ni hr (fun e => h ⟨rfl, e⟩)
    · exact up_ne e
  rw [u51, z _ _ _ (by decide) (fun e => hj ⟨by omega, e.2⟩), u13, z _ _ _ (by decide) (fun e => hj ⟨by omega, e.2⟩), u6, z _ _ _ (by decide) (fun e => hj ⟨by omega, e.2⟩)]
theorem pc_probesName {t n : Nat} {A : Nat → Nat} {hh : Int32} {σ : ps} {x : Option Value × ps} (W : Wld t A σ) (h : prun n 156 0 (lv_args 0 [.ref t, .int hh]) [] σ = some x) : x.1 = none ∧ SP t A σ x.2 ∧ (∀ j q : Nat, ¬ ((j = 16 ∨ j = 17 ∨ j = 18) ∧ q = hh.toNatClampNeg) → vw t A x.2 j q = vw t A σ j q) ∧ (gI (vw t A x.2) 16 hh.toNatClampNeg).toInt = 2 ∧ (gI (vw t A x.2) 17 hh.toNatClampNeg).toInt = 0 := by
  have h : prun n 156 0 [(0, .ref t), (1, .int hh)] [] σ = some x := h
  obtain ⟨n1, l1, h⟩ := v_al h (by decide +kernel : pins 156 0 = some (5, 1, 0, 0, [])) (v := t) rfl
  obtain ⟨n2, l2, h⟩ := w_row (k := 16) W h (by decide +kernel : pins 156 1 = some (22, 4, 13, 16, [])) (by decide)
  obtain ⟨n3, l3, h⟩ := v_il h (by decide +kernel : pins 156 4 = some (3, 5, 1, 0, [])) (v := hh) rfl
  obtain ⟨n4, w5, l4, ⟨e5, i5⟩, h⟩ := u_ic h (by decide +kernel : pins 156 5 = some (0, 6, 2, 0, [])) (by decide)
  obtain ⟨n5, s6, l5, b6, S6, u6, h⟩ := w_iast W h (by decide +kernel : pins 156 6 = some (28, 7, 0, 0, [])) (by decide)
  obtain ⟨n6, l6, h⟩ := v_al h (by decide +kernel : pins 156 7 = some (5, 8, 0, 0, [])) (v := t) rfl
  obtain ⟨n7, l7, h⟩ := w_row (k := 17) S6.1 h (by decide +kernel : pins 156 8 = some (22, 11, 13, 17, [])) (by decide)
  obtain ⟨n8, l8, h⟩ := v_il h (by decide +kernel : pins 156 11 = some (3, 12, 1, 0, [])) (v := hh) rfl
  obtain ⟨n9, w12, l9, ⟨e12, i12⟩, h⟩ := u_ic h (by decide +kernel : pins 156 12 = some (0, 13, 0, 0, [])) (by decide)
  obtain ⟨n10, s13, l10, b13, S13, u13, h⟩ := w_iast S6.1 h (by decide +kernel : pins 156 13 = some (28, 14, 0, 0, [])) (by decide)
  obtain ⟨n11, l11, h⟩ := v_al h (by decide +kernel : pins 156 14 = some (5, 15, 0, 0, [])) (v := t) rfl
  obtain ⟨n12, l12, h⟩ := w_row (k := 18) S13.1 h (by decide +kernel : pins 156 15 = some (22, 18, 13, 18, [])) (by decide)
  obtain ⟨n13, l13, h⟩ := v_il h (by decide +kernel : pins 156 18 = some (3, 19, 1, 0, [])) (v := hh) rfl
  obtain ⟨n14, l14, h⟩ := v_al h (by decide +kernel : pins 156 19 = some (5, 20, 0, 0, [])) (v := t) rfl
  obtain ⟨n15, w20, l15, e20, h⟩ := w_fl S13.1 h (by decide +kernel : pins 156 20 = some (22, 23, 13, 0, []))
  obtain ⟨n16, w23, l16, e23, h⟩ := u_lc h (by decide +kernel : pins 156 23 = some (1, 26, 13, 0, []))
  have i23 : w23.toInt = 13 := by rw [e23]; decide
  obtain ⟨n17, l17, h⟩ := v_al h (by decide +kernel : pins 156 26 = some (5, 27, 0, 0, [])) (v := t) rfl
  obtain ⟨n18, l18, h⟩ := w_row (k := 5) S13.1 h (by decide +kernel : pins 156 27 = some (22, 30, 13, 5, [])) (by decide)
  obtain ⟨n19, l19, h⟩ := v_il h (by decide +kernel : pins 156 30 = some (3, 31, 1, 0, [])) (v := hh) rfl
  obtain ⟨n20, w31, l20, b31, e31, h⟩ := w_iald S13.1 h (by decide +kernel : pins 156 31 = some (24, 32, 0, 0, [])) (by decide)
  obtain ⟨n21, w32, l21, e32, h⟩ := u_i2l h (by decide +kernel : pins 156 32 = some (13, 33, 0, 0, []))
  obtain ⟨n22, w33, l22, e33, h⟩ := u_lmul h (by decide +kernel : pins 156 33 = some (11, 34, 2, 0, []))
  obtain ⟨n23, w34, l23, e34, h⟩ := u_lc h (by decide +kernel : pins 156 34 = some (1, 37, 250, 0, []))
  have i34 : w34.toInt = 250 := by rw [e34]; decide
  obtain ⟨n24, w37, l24, e37, h⟩ := u_lrem h (by decide +kernel : pins 156 37 = some (11, 38, 4, 0, [])) (by rw [e34]; decide)
  obtain ⟨n25, w38, l25, e38, h⟩ := u_ladd h (by decide +kernel : pins 156 38 = some (11, 39, 0, 0, []))
  obtain ⟨n26, s39, l26, b39, S39, u39, h⟩ := w_last S13.1 h (by decide +kernel : pins 156 39 = some (30, 40, 0, 0, [])) (by decide)
  have ex := u_ret37 h (by decide +kernel : pins 156 40 = some (37, 41, 0, 0, []))
  subst ex
  have z : ∀ (V : Nat → Nat → Value) (r j q : Nat) (v : Value), isRw r = true → (¬ (j = r ∧ q = hh.toNatClampNeg)) → up V r hh.toNatClampNeg v j q = V j q := fun V r j q v hr h => by
    by_cases e : j = r
    · subst e; exact up_ni hr (fun e => h ⟨rfl, e⟩)
    · exact up_ne e
  refine ⟨rfl, ((S6.tr S13).tr S39), fun j q hj => ?_, ?_, ?_⟩
  · show vw t A s39 j q = _
    rw [u39, z _ _ _ _ _ (by decide) (fun e => hj ⟨by omega, e.2⟩), u13, z _ _ _ _ _ (by decide) (fun e => hj ⟨by omega, e.2⟩), u6, z _ _ _ _ _ (by decide) (fun e => hj ⟨by omega, e.2⟩)]
  · show (gI (vw t A s39) 16 _).toInt = 2
    rw [u39, gI_ne (by decide), u13, gI_ne (by decide), u6, gI_eq, i5]
  · show (gI (vw t A s39) 17 _).toInt = 0
    rw [u39, gI_ne (by decide), u13, gI_eq, i12]
theorem pc_movesOn {t n : Nat} {A : Nat → Nat} {hh : Int32} {σ : ps} {x : Option Value × ps} (W : Wld t A σ) (h : prun n 155 0 (lv_args 0 [.ref t, .int hh]) [] σ = some x) : x.1 = none ∧ SP t A σ x.2 ∧ (∀ j q : Nat, ¬ ((j = 7 ∨ j = 8 ∨ j = 12 ∨ j = 13 ∨ j = 14 ∨ j = 16 ∨ j = 18) ∧ q = hh.toNatClampNeg) → vw t A x.2 j q = vw t A σ j q) ∧ gI (vw t A x.2) 7 hh.toNatClampNeg = gI (vw t A σ) 7 hh.toNatClampNeg + 1 ∧ ¬ (gI (vw t A x.2) 16 hh.toNatClampNeg).toInt = 3 ∧ (gL (vw t A x.2) 18 hh.toNatClampNeg = gL (vw t A σ) 18 hh.toNatClampNeg ∨ (gL (vw t A x.2) 18 hh.toNatClampNeg).toInt = 9223372036854775807) := by
  have h : prun n 155 0 [(0, .ref t), (1, .int hh)] [] σ = some x := h
  obtain ⟨n1, l1, h⟩ := v_al h (by decide +kernel : pins 155 0 = some (5, 1, 0, 0, [])) (v := t) rfl
  obtain ⟨n2, l2, h⟩ := w_row (k := 7) W h (by decide +kernel : pins 155 1 = some (22, 4, 13, 7, [])) (by decide)
  obtain ⟨n3, l3, h⟩ := v_il h (by decide +kernel : pins 155 4 = some (3, 5, 1, 0, [])) (v := hh) rfl
  obtain ⟨n4, l4, h⟩ := v_dup2 h (by decide +kernel : pins 155 5 = some (35, 6, 0, 0, []))
  obtain ⟨n5, w6, l5, b6, e6, h⟩ := w_iald W h (by decide +kernel : pins 155 6 = some (24, 7, 0, 0, [])) (by decide)
  obtain ⟨n6, w7, l6, ⟨e7, i7⟩, h⟩ := u_ic h (by decide +kernel : pins 155 7 = some (0, 8, 1, 0, [])) (by decide)
  obtain ⟨n7, w8, l7, e8, h⟩ := u_add h (by decide +kernel : pins 155 8 = some (10, 9, 0, 0, []))
  obtain ⟨n8, s9, l8, b9, S9, u9, h⟩ := w_iast W h (by decide +kernel : pins 155 9 = some (28, 10, 0, 0, [])) (by decide)
  obtain ⟨n9, l9, h⟩ := v_al h (by decide +kernel : pins 155 10 = some (5, 11, 0, 0, [])) (v := t) rfl
  obtain ⟨n10, l10, h⟩ := w_row (k := 8) S9.1 h (by decide +kernel : pins 155 11 = some (22, 14, 13, 8, [])) (by decide)
  obtain ⟨n11, l11, h⟩ := v_il h (by decide +kernel : pins 155 14 = some (3, 15, 1, 0, [])) (v := hh) rfl
  obtain ⟨n12, l12, h⟩ := v_dup2 h (by decide +kernel : pins 155 15 = some (35, 16, 0, 0, []))
  obtain ⟨n13, w16, l13, b16, e16, h⟩ := w_iald S9.1 h (by decide +kernel : pins 155 16 = some (24, 17, 0, 0, [])) (by decide)
  obtain ⟨n14, w17, l14, ⟨e17, i17⟩, h⟩ := u_ic h (by decide +kernel : pins 155 17 = some (0, 18, 1, 0, [])) (by decide)
  obtain ⟨n15, w18, l15, e18, h⟩ := u_add h (by decide +kernel : pins 155 18 = some (10, 19, 0, 0, []))
  obtain ⟨n16, s19, l16, b19, S19, u19, h⟩ := w_iast S9.1 h (by decide +kernel : pins 155 19 = some (28, 20, 0, 0, [])) (by decide)
  obtain ⟨n17, l17, h⟩ := v_al h (by decide +kernel : pins 155 20 = some (5, 21, 0, 0, [])) (v := t) rfl
  obtain ⟨n18, l18, h⟩ := v_il h (by decide +kernel : pins 155 21 = some (3, 22, 1, 0, [])) (v := hh) rfl
  obtain ⟨n19, r22, s22, l19, h22, h⟩ := pinv_call h (by decide +kernel : pins 155 22 = some (36, 25, 154, 0, [2]))
  have h22 : prun n19 154 0 (lv_args 0 [.ref t, .int hh]) [] s19 = some (r22, s22) := h22
  obtain ⟨er22, S22, f22⟩ := pc_probes S19.1 h22
  have er22 : r22 = none := er22
  subst er22
  try dsimp only at S22
  try dsimp only at f22
  have h : prun n19 155 25 [(0, .ref t), (1, .int hh)] [] s22 = some x := h
  obtain ⟨n20, l20, h⟩ := v_al h (by decide +kernel : pins 155 25 = some (5, 26, 0, 0, [])) (v := t) rfl
  obtain ⟨n21, l21, h⟩ := w_row (k := 16) S22.1 h (by decide +kernel : pins 155 26 = some (22, 29, 13, 16, [])) (by decide)
  obtain ⟨n22, l22, h⟩ := v_il h (by decide +kernel : pins 155 29 = some (3, 30, 1, 0, [])) (v := hh) rfl
  obtain ⟨n23, w30, l23, b30, e30, h⟩ := w_iald S22.1 h (by decide +kernel : pins 155 30 = some (24, 31, 0, 0, [])) (by decide)
  obtain ⟨n24, l24, ⟨c31, h⟩ | ⟨c31, h⟩⟩ := u_if5 h (by decide +kernel : pins 155 31 = some (16, 34, 5, ((50 : Nat) : Int), []))
  · have ex := u_ret37 h (by decide +kernel : pins 155 50 = some (37, 51, 0, 0, []))
    subst ex
    have z : ∀ (V : Nat → Nat → Value) (r j q : Nat) (v : Value), isRw r = true → (¬ (j = r ∧ q = hh.toNatClampNeg)) → up V r hh.toNatClampNeg v j q = V j q := fun V r j q v hr h => by
      by_cases e : j = r
      · subst e; exact up_ni hr (fun e => h ⟨rfl, e⟩)
      · exact up_ne e
    refine ⟨rfl, ((S9.tr S19).tr S22), fun j q hj => ?_, ?_, ?_, ?_⟩
    · show vw t A s22 j q = _
      rw [f22 j q (fun e => hj ⟨by omega, e.2⟩), u19, z _ _ _ _ _ (by decide) (fun e => hj ⟨by omega, e.2⟩), u9, z _ _ _ _ _ (by decide) (fun e => hj ⟨by omega, e.2⟩)]
    · show gI (vw t A s22) 7 _ = _
      skip
      unfold gI
      rw [f22 7 _ (fun e => by omega), u19, up_ne (by decide), u9, up_eq]
      show w8 = _
      rw [e8, e6, e7]
      rfl
    · show ¬ (gI (vw t A s22) 16 _).toInt = 3
      rw [← e30]
      omega
    · refine Or.inl ?_
      show gL (vw t A s22) 18 _ = _
      unfold gL
      rw [f22 18 _ (fun e => by omega), u19, up_ne (by decide), u9, up_ne (by decide)]
  · obtain ⟨n26, l26, h⟩ := v_al h (by decide +kernel : pins 155 34 = some (5, 35, 0, 0, [])) (v := t) rfl
    obtain ⟨n27, l27, h⟩ := w_row (k := 16) S22.1 h (by decide +kernel : pins 155 35 = some (22, 38, 13, 16, [])) (by decide)
    obtain ⟨n28, l28, h⟩ := v_il h (by decide +kernel : pins 155 38 = some (3, 39, 1, 0, [])) (v := hh) rfl
    obtain ⟨n29, w39, l29, ⟨e39, i39⟩, h⟩ := u_ic h (by decide +kernel : pins 155 39 = some (0, 40, 1, 0, [])) (by decide)
    obtain ⟨n30, s40, l30, b40, S40, u40, h⟩ := w_iast S22.1 h (by decide +kernel : pins 155 40 = some (28, 41, 0, 0, [])) (by decide)
    obtain ⟨n31, l31, h⟩ := v_al h (by decide +kernel : pins 155 41 = some (5, 42, 0, 0, [])) (v := t) rfl
    obtain ⟨n32, l32, h⟩ := w_row (k := 18) S40.1 h (by decide +kernel : pins 155 42 = some (22, 45, 13, 18, [])) (by decide)
    obtain ⟨n33, l33, h⟩ := v_il h (by decide +kernel : pins 155 45 = some (3, 46, 1, 0, [])) (v := hh) rfl
    obtain ⟨n34, w46, l34, e46, h⟩ := u_lc h (by decide +kernel : pins 155 46 = some (1, 49, 9223372036854775807, 0, []))
    have i46 : w46.toInt = 9223372036854775807 := by rw [e46]; decide
    obtain ⟨n35, s49, l35, b49, S49, u49, h⟩ := w_last S40.1 h (by decide +kernel : pins 155 49 = some (30, 50, 0, 0, [])) (by decide)
    have ex := u_ret37 h (by decide +kernel : pins 155 50 = some (37, 51, 0, 0, []))
    subst ex
    have z : ∀ (V : Nat → Nat → Value) (r j q : Nat) (v : Value), isRw r = true → (¬ (j = r ∧ q = hh.toNatClampNeg)) → up V r hh.toNatClampNeg v j q = V j q := fun V r j q v hr h => by
      by_cases e : j = r
      · subst e; exact up_ni hr (fun e => h ⟨rfl, e⟩)
      · exact up_ne e
    refine ⟨rfl, ((((S9.tr S19).tr S22).tr S40).tr S49), fun j q hj => ?_, ?_, ?_, ?_⟩
    · show vw t A s49 j q = _
      rw [u49, z _ _ _ _ _ (by decide) (fun e => hj ⟨by omega, e.2⟩), u40, z _ _ _ _ _ (by decide) (fun e => hj ⟨by omega, e.2⟩), f22 j q (fun e => hj ⟨by omega, e.2⟩), u19, z _ _ _ _ _ (by decide) (fun e => hj ⟨by omega, e.2⟩), u9, z _ _ _ _ _ (by decide) (fun e => hj ⟨by omega, e.2⟩)]
    · show gI (vw t A s49) 7 _ = _
      rw [u49, gI_ne (by decide), u40, gI_ne (by decide)]
      unfold gI
      rw [f22 7 _ (fun e => by omega), u19, up_ne (by decide), u9, up_eq]
      show w8 = _
      rw [e8, e6, e7]
      rfl
    · show ¬ (gI (vw t A s49) 16 _).toInt = 3
      rw [u49, gI_ne (by decide), u40, gI_eq, i39]
      decide
    · refine Or.inr ?_
      show (gL (vw t A s49) 18 _).toInt = _
      rw [u49, gL_eq, e46]
      decide
def cap10 (d : Int) : Int := if d = 1 then 2147483647 else if d = 2 then 214748364 else if d = 3 then 21474836 else if d = 4 then 2147483 else if d = 5 then 214748 else if d = 6 then 21474 else if d = 7 then 2147 else if d = 8 then 214 else if d = 9 then 21 else 2
theorem pc_ren1 {t : Nat} {A : Nat → Nat} {hh : Int32} : ∀ (n : Nat) (v dd : Int32) (σ : ps) (x : Option Value × ps), Wld t A σ → (1 ≤ dd.toInt ∧ dd.toInt ≤ 10 ∧ v.toInt ≤ cap10 dd.toInt) → prun n 157 29 [(3, .int v), (2, .int dd), (0, .ref t), (1, .int hh)] [] σ = some x → ∃ (m : Nat) (d2 v2 : Int32), 1 ≤ d2.toInt ∧ d2.toInt ≤ 10 ∧ (v.toInt ≤ 9 → d2 = dd) ∧ prun m 157 46 [(3, .int v2), (2, .int d2), (0, .ref t), (1, .int hh)] [] σ = some x := by
  intro n
  induction n using Nat.strongRecOn with
  | ind n ih =>
    intro v dd σ x W I h
    obtain ⟨I1, I2, I3⟩ := I
    obtain ⟨n1, l1, h⟩ := v_il h (by decide +kernel : pins 157 29 = some (3, 30, 3, 0, [])) (v := v) rfl
    obtain ⟨n2, w30, l2, ⟨e30, i30⟩, h⟩ := u_ic h (by decide +kernel : pins 157 30 = some (0, 32, 9, 0, [])) (by decide)
    obtain ⟨n3, l3, ⟨c32, h⟩ | ⟨c32, h⟩⟩ := u_ic5 h (by decide +kernel : pins 157 32 = some (17, 35, 5, ((46 : Nat) : Int), []))
    · have h := prun_lv h (lv' := [(3, .int v), (2, .int dd), (0, .ref t), (1, .int hh)]) (lvLe.cons (lvLe.cons (lvLe.cons (lvLe.cons lvLe.nil rfl) rfl) rfl) rfl) (by decide : ([3, 2, 0, 1] : List Nat).Nodup) (by decide : ([3, 2, 0, 1] : List Nat).Nodup)
      exact ⟨_, dd, v, I1, I2, fun _ => rfl, h⟩
    · obtain ⟨n4, w35, l4, e35, h⟩ := u_inc h (by decide +kernel : pins 157 35 = some (9, 38, 2, 1, [])) (v := dd) rfl
      have h : prun n4 157 38 [(2, .int w35), (3, .int v), (0, .ref t), (1, .int hh)] [] σ = some x := h
      obtain ⟨n5, l5, h⟩ := v_il h (by decide +kernel : pins 157 38 = some (3, 39, 3, 0, [])) (v := v) rfl
      obtain ⟨n6, w39, l6, ⟨e39, i39⟩, h⟩ := u_ic h (by decide +kernel : pins 157 39 = some (0, 41, 10, 0, [])) (by decide)
      obtain ⟨n7, w41, l7, e41, h⟩ := u_div h (by decide +kernel : pins 157 41 = some (10, 42, 3, 0, [])) (by rw [e39]; decide)
      obtain ⟨n8, l8, h⟩ := v_is h (by decide +kernel : pins 157 42 = some (6, 43, 3, 0, []))
      have h : prun n8 157 43 [(3, .int w41), (2, .int w35), (0, .ref t), (1, .int hh)] [] σ = some x := h
      obtain ⟨n9, l9, h⟩ := u_go h (by decide +kernel : pins 157 43 = some (20, 46, 0, ((29 : Nat) : Int), []))
      have h := prun_lv h (lv' := [(3, .int w41), (2, .int w35), (0, .ref t), (1, .int hh)]) (lvLe.cons (lvLe.cons (lvLe.cons (lvLe.cons lvLe.nil rfl) rfl) rfl) rfl) (by decide : ([3, 2, 0, 1] : List Nat).Nodup) (by decide : ([3, 2, 0, 1] : List Nat).Nodup)
      have q41 : w41.toInt = v.toInt / 10 := by rw [e41, n_divp (by omega) (by rw [i39]; decide), i39]
      have q35 : w35.toInt = dd.toInt + 1 := addc e35 (by decide : (Int32.ofInt 1).toInt = 1) (by omega) (by omega) (by decide) (by decide)
      have hc : dd.toInt ≤ 9 ∧ w41.toInt ≤ cap10 (dd.toInt + 1) := by
        have hd : dd.toInt = 1 ∨ dd.toInt = 2 ∨ dd.toInt = 3 ∨ dd.toInt = 4 ∨ dd.toInt = 5 ∨ dd.toInt = 6 ∨ dd.toInt = 7 ∨ dd.toInt = 8 ∨ dd.toInt = 9 ∨ dd.toInt = 10 := by omega
        rcases hd with e | e | e | e | e | e | e | e | e | e <;> rw [e] at I3 <;> rw [e] <;> simp only [cap10] at I3 ⊢ <;> simp at I3 ⊢ <;> omega
      obtain ⟨m, d2, v2, y1, y2, y3, y4⟩ := ih n9 (by omega) _ _ _ x W ⟨by omega, by omega, by rw [q35]; exact hc.2⟩ h
      exact ⟨m, d2, v2, y1, y2, fun hv => by omega, y4⟩
theorem pc_ren2 {t : Nat} {A : Nat → Nat} {hh nn dd : Int32} (hh0 : 0 ≤ hh.toInt ∧ hh.toInt ≤ 7) (hnn : 0 ≤ nn.toInt ∧ nn.toInt ≤ 13) : ∀ (n : Nat) (c : Int32) (σ : ps) (x : Option Value × ps), Wld t A σ → (1 ≤ c.toInt ∧ c.toInt ≤ 15) → prun n 157 82 [(4, .int c), (3, .int nn), (2, .int dd), (0, .ref t), (1, .int hh)] [] σ = some x → ∃ (m : Nat) (c2 : Int32) (σ' : ps), SP t A σ σ' ∧ (∀ j q : Nat, ¬ (j = 21 ∧ 16 * hh.toNatClampNeg < q ∧ q < 16 * hh.toNatClampNeg + 16) → vw t A σ' j q = vw t A σ j q) ∧ prun m 157 118 [(4, .int c2), (3, .int nn), (2, .int dd), (0, .ref t), (1, .int hh)] [] σ' = some x := by
  intro n
  induction n using Nat.strongRecOn with
  | ind n ih =>
    intro c σ x W I h
    obtain ⟨I1, I2⟩ := I
    obtain ⟨n1, l1, h⟩ := v_il h (by decide +kernel : pins 157 82 = some (3, 84, 4, 0, [])) (v := c) rfl
    obtain ⟨n2, l2, h⟩ := v_il h (by decide +kernel : pins 157 84 = some (3, 85, 3, 0, [])) (v := nn) rfl
    obtain ⟨n3, l3, ⟨c85, h⟩ | ⟨c85, h⟩⟩ := u_ic4 h (by decide +kernel : pins 157 85 = some (17, 88, 4, ((118 : Nat) : Int), []))
    · have h := prun_lv h (lv' := [(4, .int c), (3, .int nn), (2, .int dd), (0, .ref t), (1, .int hh)]) (lvLe.cons (lvLe.cons (lvLe.cons (lvLe.cons (lvLe.cons lvLe.nil rfl) rfl) rfl) rfl) rfl) (by decide : ([4, 3, 2, 0, 1] : List Nat).Nodup) (by decide : ([4, 3, 2, 0, 1] : List Nat).Nodup)
      exact ⟨_, _, σ, SP.rf W, fun j q _ => rfl, h⟩
    · obtain ⟨n4, l4, h⟩ := v_al h (by decide +kernel : pins 157 88 = some (5, 89, 0, 0, [])) (v := t) rfl
      obtain ⟨n5, l5, h⟩ := w_row (k := 21) W h (by decide +kernel : pins 157 89 = some (22, 92, 13, 21, [])) (by decide)
      obtain ⟨n6, w92, l6, ⟨e92, i92⟩, h⟩ := u_ic h (by decide +kernel : pins 157 92 = some (0, 94, 16, 0, [])) (by decide)
      obtain ⟨n7, l7, h⟩ := v_il h (by decide +kernel : pins 157 94 = some (3, 95, 1, 0, [])) (v := hh) rfl
      obtain ⟨n8, w95, l8, e95, h⟩ := u_mul h (by decide +kernel : pins 157 95 = some (10, 96, 2, 0, []))
      obtain ⟨n9, l9, h⟩ := v_il h (by decide +kernel : pins 157 96 = some (3, 98, 4, 0, [])) (v := c) rfl
      obtain ⟨n10, w98, l10, e98, h⟩ := u_add h (by decide +kernel : pins 157 98 = some (10, 99, 0, 0, []))
      obtain ⟨n11, l11, h⟩ := v_al h (by decide +kernel : pins 157 99 = some (5, 100, 0, 0, [])) (v := t) rfl
      obtain ⟨n12, l12, h⟩ := w_row (k := 20) W h (by decide +kernel : pins 157 100 = some (22, 103, 13, 20, [])) (by decide)
      obtain ⟨n13, w103, l13, ⟨e103, i103⟩, h⟩ := u_ic h (by decide +kernel : pins 157 103 = some (0, 105, 16, 0, [])) (by decide)
      obtain ⟨n14, l14, h⟩ := v_il h (by decide +kernel : pins 157 105 = some (3, 106, 1, 0, [])) (v := hh) rfl
      obtain ⟨n15, w106, l15, e106, h⟩ := u_mul h (by decide +kernel : pins 157 106 = some (10, 107, 2, 0, []))
      obtain ⟨n16, l16, h⟩ := v_il h (by decide +kernel : pins 157 107 = some (3, 109, 4, 0, [])) (v := c) rfl
      obtain ⟨n17, w109, l17, e109, h⟩ := u_add h (by decide +kernel : pins 157 109 = some (10, 110, 0, 0, []))
      obtain ⟨n18, w110, l18, b110, e110, h⟩ := w_iald W h (by decide +kernel : pins 157 110 = some (24, 111, 0, 0, [])) (by decide)
      obtain ⟨n19, s111, l19, b111, S111, u111, h⟩ := w_iast W h (by decide +kernel : pins 157 111 = some (28, 112, 0, 0, [])) (by decide)
      obtain ⟨n20, w112, l20, e112, h⟩ := u_inc h (by decide +kernel : pins 157 112 = some (9, 115, 4, 1, [])) (v := c) rfl
      have h : prun n20 157 115 [(4, .int w112), (3, .int nn), (2, .int dd), (0, .ref t), (1, .int hh)] [] s111 = some x := h
      obtain ⟨n21, l21, h⟩ := u_go h (by decide +kernel : pins 157 115 = some (20, 118, 0, ((82 : Nat) : Int), []))
      have h := prun_lv h (lv' := [(4, .int w112), (3, .int nn), (2, .int dd), (0, .ref t), (1, .int hh)]) (lvLe.cons (lvLe.cons (lvLe.cons (lvLe.cons (lvLe.cons lvLe.nil rfl) rfl) rfl) rfl) rfl) (by decide : ([4, 3, 2, 0, 1] : List Nat).Nodup) (by decide : ([4, 3, 2, 0, 1] : List Nat).Nodup)
      have q95 : w95.toInt = 16 * hh.toInt := by rw [e95, n_mul (by rw [i92]; omega) (by rw [i92]; omega), i92]
      have hn : (hh.toNatClampNeg : Int) = hh.toInt := n_clamp hh0.1
      have q98 : w98.toInt = 16 * hh.toInt + c.toInt := by rw [addc e98 rfl (by omega) (by omega) (by omega) (by omega), q95]
      have n98 : (w98.toNatClampNeg : Int) = 16 * hh.toInt + c.toInt := by rw [n_clamp (by omega), q98]
      have q112 : w112.toInt = c.toInt + 1 := addc e112 (by decide : (Int32.ofInt 1).toInt = 1) (by omega) (by omega) (by decide) (by decide)
      obtain ⟨m, c2, σ2, y1, y2, y3⟩ := ih n21 (by omega) _ _ x S111.1 ⟨by omega, by omega⟩ h
      refine ⟨m, c2, σ2, S111.tr y1, fun j q hj => (y2 j q hj).trans ?_, y3⟩
      rw [u111]
      by_cases e : j = 21
      · subst e
        exact up_ni (by decide) (fun e => hj ⟨rfl, by omega, by omega⟩)
      · exact up_ne e
theorem pc_ren3 {t : Nat} {A : Nat → Nat} {hh nn dd : Int32} (hh0 : 0 ≤ hh.toInt ∧ hh.toInt ≤ 7) (hnn : 0 ≤ nn.toInt ∧ nn.toInt ≤ 13) : ∀ (n : Nat) (c v : Int32) (σ : ps) (x : Option Value × ps), Wld t A σ → (0 ≤ c.toInt ∧ nn.toInt + 1 + c.toInt ≤ 15) → prun n 157 144 [(5, .int c), (4, .int v), (3, .int nn), (2, .int dd), (0, .ref t), (1, .int hh)] [] σ = some x → ∃ (m : Nat) (c2 v2 : Int32) (σ' : ps), SP t A σ σ' ∧ (∀ j q : Nat, ¬ (j = 21 ∧ 16 * hh.toNatClampNeg < q ∧ q < 16 * hh.toNatClampNeg + 16) → vw t A σ' j q = vw t A σ j q) ∧ (c.toInt = 1 → v.toInt = -2147483648 → (gI (vw t A σ') 21 (16 * hh.toNatClampNeg + nn.toNatClampNeg + 2)).toInt = 40) ∧ (c.toInt = 0 → vw t A σ' = vw t A σ) ∧ prun m 157 186 [(5, .int c2), (4, .int v2), (3, .int nn), (2, .int dd), (0, .ref t), (1, .int hh)] [] σ' = some x := by
  intro n
  induction n using Nat.strongRecOn with
  | ind n ih =>
    intro c v σ x W I h
    obtain ⟨I1, I2⟩ := I
    obtain ⟨n1, l1, h⟩ := v_il h (by decide +kernel : pins 157 144 = some (3, 146, 5, 0, [])) (v := c) rfl
    obtain ⟨n2, l2, ⟨c146, h⟩ | ⟨c146, h⟩⟩ := u_if5 h (by decide +kernel : pins 157 146 = some (16, 149, 5, ((186 : Nat) : Int), []))
    · have h := prun_lv h (lv' := [(5, .int c), (4, .int v), (3, .int nn), (2, .int dd), (0, .ref t), (1, .int hh)]) (lvLe.cons (lvLe.cons (lvLe.cons (lvLe.cons (lvLe.cons (lvLe.cons lvLe.nil rfl) rfl) rfl) rfl) rfl) rfl) (by decide : ([5, 4, 3, 2, 0, 1] : List Nat).Nodup) (by decide : ([5, 4, 3, 2, 0, 1] : List Nat).Nodup)
      exact ⟨_, _, _, σ, SP.rf W, fun j q _ => rfl, fun h _ => by omega, fun _ => rfl, h⟩
    · obtain ⟨n3, l3, h⟩ := v_al h (by decide +kernel : pins 157 149 = some (5, 150, 0, 0, [])) (v := t) rfl
      obtain ⟨n4, l4, h⟩ := w_row (k := 21) W h (by decide +kernel : pins 157 150 = some (22, 153, 13, 21, [])) (by decide)
      obtain ⟨n5, w153, l5, ⟨e153, i153⟩, h⟩ := u_ic h (by decide +kernel : pins 157 153 = some (0, 155, 16, 0, [])) (by decide)
      obtain ⟨n6, l6, h⟩ := v_il h (by decide +kernel : pins 157 155 = some (3, 156, 1, 0, [])) (v := hh) rfl
      obtain ⟨n7, w156, l7, e156, h⟩ := u_mul h (by decide +kernel : pins 157 156 = some (10, 157, 2, 0, []))
      obtain ⟨n8, l8, h⟩ := v_il h (by decide +kernel : pins 157 157 = some (3, 158, 3, 0, [])) (v := nn) rfl
      obtain ⟨n9, w158, l9, e158, h⟩ := u_add h (by decide +kernel : pins 157 158 = some (10, 159, 0, 0, []))
      obtain ⟨n10, w159, l10, ⟨e159, i159⟩, h⟩ := u_ic h (by decide +kernel : pins 157 159 = some (0, 160, 1, 0, [])) (by decide)
      obtain ⟨n11, w160, l11, e160, h⟩ := u_add h (by decide +kernel : pins 157 160 = some (10, 161, 0, 0, []))
      obtain ⟨n12, l12, h⟩ := v_il h (by decide +kernel : pins 157 161 = some (3, 163, 5, 0, [])) (v := c) rfl
      obtain ⟨n13, w163, l13, e163, h⟩ := u_add h (by decide +kernel : pins 157 163 = some (10, 164, 0, 0, []))
      obtain ⟨n14, w164, l14, ⟨e164, i164⟩, h⟩ := u_ic h (by decide +kernel : pins 157 164 = some (0, 166, 48, 0, [])) (by decide)
      obtain ⟨n15, l15, h⟩ := v_il h (by decide +kernel : pins 157 166 = some (3, 168, 4, 0, [])) (v := v) rfl
      obtain ⟨n16, w168, l16, ⟨e168, i168⟩, h⟩ := u_ic h (by decide +kernel : pins 157 168 = some (0, 170, 10, 0, [])) (by decide)
      obtain ⟨n17, w170, l17, e170, h⟩ := u_rem h (by decide +kernel : pins 157 170 = some (10, 171, 4, 0, [])) (by rw [e168]; decide)
      obtain ⟨n18, w171, l18, e171, h⟩ := u_add h (by decide +kernel : pins 157 171 = some (10, 172, 0, 0, []))
      obtain ⟨n19, s172, l19, b172, S172, u172, h⟩ := w_iast W h (by decide +kernel : pins 157 172 = some (28, 173, 0, 0, [])) (by decide)
      obtain ⟨n20, l20, h⟩ := v_il h (by decide +kernel : pins 157 173 = some (3, 175, 4, 0, [])) (v := v) rfl
      obtain ⟨n21, w175, l21, ⟨e175, i175⟩, h⟩ := u_ic h (by decide +kernel : pins 157 175 = some (0, 177, 10, 0, [])) (by decide)
      obtain ⟨n22, w177, l22, e177, h⟩ := u_div h (by decide +kernel : pins 157 177 = some (10, 178, 3, 0, [])) (by rw [e175]; decide)
      obtain ⟨n23, l23, h⟩ := v_is h (by decide +kernel : pins 157 178 = some (6, 180, 4, 0, []))
      have h : prun n23 157 180 [(4, .int w177), (5, .int c), (3, .int nn), (2, .int dd), (0, .ref t), (1, .int hh)] [] s172 = some x := h
      obtain ⟨n24, w180, l24, e180, h⟩ := u_inc h (by decide +kernel : pins 157 180 = some (9, 183, 5, (-1), [])) (v := c) rfl
      have h : prun n24 157 183 [(5, .int w180), (4, .int w177), (3, .int nn), (2, .int dd), (0, .ref t), (1, .int hh)] [] s172 = some x := h
      obtain ⟨n25, l25, h⟩ := u_go h (by decide +kernel : pins 157 183 = some (20, 186, 0, ((144 : Nat) : Int), []))
      have h := prun_lv h (lv' := [(5, .int w180), (4, .int w177), (3, .int nn), (2, .int dd), (0, .ref t), (1, .int hh)]) (lvLe.cons (lvLe.cons (lvLe.cons (lvLe.cons (lvLe.cons (lvLe.cons lvLe.nil rfl) rfl) rfl) rfl) rfl) rfl) (by decide : ([5, 4, 3, 2, 0, 1] : List Nat).Nodup) (by decide : ([5, 4, 3, 2, 0, 1] : List Nat).Nodup)
      have q156 : w156.toInt = 16 * hh.toInt := by rw [e156, n_mul (by rw [i153]; omega) (by rw [i153]; omega), i153]
      have hn : (hh.toNatClampNeg : Int) = hh.toInt := n_clamp hh0.1
      have nnn : (nn.toNatClampNeg : Int) = nn.toInt := n_clamp hnn.1
      have q158 : w158.toInt = 16 * hh.toInt + nn.toInt := by rw [addc e158 rfl (by omega) (by omega) (by omega) (by omega), q156]
      have q160 : w160.toInt = 16 * hh.toInt + nn.toInt + 1 := by rw [addc e160 i159 (by omega) (by omega) (by decide) (by decide), q158]
      have q163 : w163.toInt = 16 * hh.toInt + nn.toInt + 1 + c.toInt := by rw [addc e163 rfl (by omega) (by omega) (by omega) (by omega), q160]
      have n163 : (w163.toNatClampNeg : Int) = 16 * hh.toInt + nn.toInt + 1 + c.toInt := by rw [n_clamp (by omega), q163]
      have q180 : w180.toInt = c.toInt - 1 := by have := addc e180 (by decide : (Int32.ofInt (-1)).toInt = -1) (by omega) (by omega) (by decide) (by decide); omega
      obtain ⟨m, c2, v2, σ2, y1, y2, y4, y5, y3⟩ := ih n25 (by omega) _ _ _ x S172.1 ⟨by omega, by omega⟩ h
      refine ⟨m, c2, v2, σ2, S172.tr y1, fun j q hj => (y2 j q hj).trans ?_, fun hc hv => ?_, fun hc => by omega, y3⟩
      · rw [u172]
        by_cases e : j = 21
        · subst e
          exact up_ni (by decide) (fun e => hj ⟨rfl, by omega, by omega⟩)
        · exact up_ne e
      · have n1 : w163.toNatClampNeg = 16 * hh.toNatClampNeg + nn.toNatClampNeg + 2 := by omega
        have hv' : v = Int32.ofInt (-2147483648) := Int32.toInt_inj.mp (by rw [hv]; decide)
        have e2 := y5 (by omega)
        rw [e2, ← n1, u172, gI_eq, e171, e170, e164, e168, hv']
        decide
set_option maxHeartbeats 1000000 in
theorem pc_renames {t n : Nat} {A : Nat → Nat} {hh : Int32} {σ : ps} {x : Option Value × ps} (W : Wld t A σ) (h : prun n 157 0 (lv_args 0 [.ref t, .int hh]) [] σ = some x) (hh0 : 0 ≤ hh.toInt ∧ hh.toInt ≤ 7) (hw : 0 ≤ (gI (vw t A σ) 20 (16 * hh.toNatClampNeg)).toInt ∧ (gI (vw t A σ) 20 (16 * hh.toNatClampNeg)).toInt ≤ 15) : x.1 = none ∧ SP t A σ x.2 ∧ (∀ j q : Nat, ¬ ((j = 8 ∨ j = 16 ∨ j = 17 ∨ j = 18 ∨ j = 19) ∧ q = hh.toNatClampNeg) → ¬ (j = 21 ∧ 16 * hh.toNatClampNeg ≤ q ∧ q < 16 * hh.toNatClampNeg + 16) → vw t A x.2 j q = vw t A σ j q) ∧ gI (vw t A x.2) 19 hh.toNatClampNeg = gI (vw t A σ) 19 hh.toNatClampNeg + 1 ∧ (gI (vw t A x.2) 16 hh.toNatClampNeg).toInt = 2 ∧ (gI (vw t A x.2) 17 hh.toNatClampNeg).toInt = 0 ∧ ((gI (vw t A x.2) 19 hh.toNatClampNeg).toInt = -2147483648 → ∃ d : Nat, 1 ≤ d ∧ (d : Int) ≤ (gI (vw t A x.2) 21 (16 * hh.toNatClampNeg)).toInt ∧ (gI (vw t A x.2) 21 (16 * hh.toNatClampNeg + d)).toInt = 40) := by
  have h : prun n 157 0 [(0, .ref t), (1, .int hh)] [] σ = some x := h
  obtain ⟨n1, l1, h⟩ := v_al h (by decide +kernel : pins 157 0 = some (5, 1, 0, 0, [])) (v := t) rfl
  obtain ⟨n2, l2, h⟩ := w_row (k := 8) W h (by decide +kernel : pins 157 1 = some (22, 4, 13, 8, [])) (by decide)
  obtain ⟨n3, l3, h⟩ := v_il h (by decide +kernel : pins 157 4 = some (3, 5, 1, 0, [])) (v := hh) rfl
  obtain ⟨n4, l4, h⟩ := v_dup2 h (by decide +kernel : pins 157 5 = some (35, 6, 0, 0, []))
  obtain ⟨n5, w6, l5, b6, e6, h⟩ := w_iald W h (by decide +kernel : pins 157 6 = some (24, 7, 0, 0, [])) (by decide)
  obtain ⟨n6, w7, l6, ⟨e7, i7⟩, h⟩ := u_ic h (by decide +kernel : pins 157 7 = some (0, 8, 1, 0, [])) (by decide)
  obtain ⟨n7, w8, l7, e8, h⟩ := u_add h (by decide +kernel : pins 157 8 = some (10, 9, 0, 0, []))
  obtain ⟨n8, s9, l8, b9, S9, u9, h⟩ := w_iast W h (by decide +kernel : pins 157 9 = some (28, 10, 0, 0, [])) (by decide)
  obtain ⟨n9, l9, h⟩ := v_al h (by decide +kernel : pins 157 10 = some (5, 11, 0, 0, [])) (v := t) rfl
  obtain ⟨n10, l10, h⟩ := w_row (k := 19) S9.1 h (by decide +kernel : pins 157 11 = some (22, 14, 13, 19, [])) (by decide)
  obtain ⟨n11, l11, h⟩ := v_il h (by decide +kernel : pins 157 14 = some (3, 15, 1, 0, [])) (v := hh) rfl
  obtain ⟨n12, l12, h⟩ := v_dup2 h (by decide +kernel : pins 157 15 = some (35, 16, 0, 0, []))
  obtain ⟨n13, w16, l13, b16, e16, h⟩ := w_iald S9.1 h (by decide +kernel : pins 157 16 = some (24, 17, 0, 0, [])) (by decide)
  obtain ⟨n14, w17, l14, ⟨e17, i17⟩, h⟩ := u_ic h (by decide +kernel : pins 157 17 = some (0, 18, 1, 0, [])) (by decide)
  obtain ⟨n15, w18, l15, e18, h⟩ := u_add h (by decide +kernel : pins 157 18 = some (10, 19, 0, 0, []))
  obtain ⟨n16, s19, l16, b19, S19, u19, h⟩ := w_iast S9.1 h (by decide +kernel : pins 157 19 = some (28, 20, 0, 0, [])) (by decide)
  obtain ⟨n17, w20, l17, ⟨e20, i20⟩, h⟩ := u_ic h (by decide +kernel : pins 157 20 = some (0, 21, 1, 0, [])) (by decide)
  obtain ⟨n18, l18, h⟩ := v_is h (by decide +kernel : pins 157 21 = some (6, 22, 2, 0, []))
  have h : prun n18 157 22 [(2, .int w20), (0, .ref t), (1, .int hh)] [] s19 = some x := h
  obtain ⟨n19, l19, h⟩ := v_al h (by decide +kernel : pins 157 22 = some (5, 23, 0, 0, [])) (v := t) rfl
  obtain ⟨n20, l20, h⟩ := w_row (k := 19) S19.1 h (by decide +kernel : pins 157 23 = some (22, 26, 13, 19, [])) (by decide)
  obtain ⟨n21, l21, h⟩ := v_il h (by decide +kernel : pins 157 26 = some (3, 27, 1, 0, [])) (v := hh) rfl
  obtain ⟨n22, w27, l22, b27, e27, h⟩ := w_iald S19.1 h (by decide +kernel : pins 157 27 = some (24, 28, 0, 0, [])) (by decide)
  obtain ⟨n23, l23, h⟩ := v_is h (by decide +kernel : pins 157 28 = some (6, 29, 3, 0, []))
  have h : prun n23 157 29 [(3, .int w27), (2, .int w20), (0, .ref t), (1, .int hh)] [] s19 = some x := h
  have h := prun_lv h (lv' := [(3, .int w27), (2, .int w20), (0, .ref t), (1, .int hh)]) (lvLe.cons (lvLe.cons (lvLe.cons (lvLe.cons lvLe.nil rfl) rfl) rfl) rfl) (by decide : ([3, 2, 0, 1] : List Nat).Nodup) (by decide : ([3, 2, 0, 1] : List Nat).Nodup)
  obtain ⟨m1, d1, v1, y1, y2, y3, h⟩ := pc_ren1 _ _ _ _ x S19.1 ⟨by rw [i20]; decide, by rw [i20]; decide, by rw [i20]; exact (n_rng _).2⟩ h
  have hn : (hh.toNatClampNeg : Int) = hh.toInt := n_clamp hh0.1
  obtain ⟨n501, l501, h⟩ := v_al h (by decide +kernel : pins 157 46 = some (5, 47, 0, 0, [])) (v := t) rfl
  obtain ⟨n502, l502, h⟩ := w_row (k := 20) S19.1 h (by decide +kernel : pins 157 47 = some (22, 50, 13, 20, [])) (by decide)
  obtain ⟨n503, w50, l503, ⟨e50, i50⟩, h⟩ := u_ic h (by decide +kernel : pins 157 50 = some (0, 52, 16, 0, [])) (by decide)
  obtain ⟨n504, l504, h⟩ := v_il h (by decide +kernel : pins 157 52 = some (3, 53, 1, 0, [])) (v := hh) rfl
  obtain ⟨n505, w53, l505, e53, h⟩ := u_mul h (by decide +kernel : pins 157 53 = some (10, 54, 2, 0, []))
  obtain ⟨n506, w54, l506, b54, e54, h⟩ := w_iald S19.1 h (by decide +kernel : pins 157 54 = some (24, 55, 0, 0, [])) (by decide)
  obtain ⟨n507, w55, l507, ⟨e55, i55⟩, h⟩ := u_ic h (by decide +kernel : pins 157 55 = some (0, 57, 14, 0, [])) (by decide)
  obtain ⟨n508, l508, h⟩ := v_il h (by decide +kernel : pins 157 57 = some (3, 58, 2, 0, [])) (v := d1) rfl
  obtain ⟨n509, w58, l509, e58, h⟩ := u_sub h (by decide +kernel : pins 157 58 = some (10, 59, 1, 0, []))
  obtain ⟨n510, l510, ⟨c59, h⟩ | ⟨c59, h⟩⟩ := u_ic3 h (by decide +kernel : pins 157 59 = some (17, 62, 3, ((74 : Nat) : Int), []))
  · obtain ⟨n511, w74, l511, ⟨e74, i74⟩, h⟩ := u_ic h (by decide +kernel : pins 157 74 = some (0, 76, 14, 0, [])) (by decide)
    obtain ⟨n512, l512, h⟩ := v_il h (by decide +kernel : pins 157 76 = some (3, 77, 2, 0, [])) (v := d1) rfl
    obtain ⟨n513, w77, l513, e77, h⟩ := u_sub h (by decide +kernel : pins 157 77 = some (10, 78, 1, 0, []))
    obtain ⟨n514, l514, h⟩ := v_is h (by decide +kernel : pins 157 78 = some (6, 79, 3, 0, []))
    have h : prun n514 157 79 [(3, .int w77), (2, .int d1), (0, .ref t), (1, .int hh)] [] s19 = some x := h
    obtain ⟨n515, w79, l515, ⟨e79, i79⟩, h⟩ := u_ic h (by decide +kernel : pins 157 79 = some (0, 80, 1, 0, [])) (by decide)
    obtain ⟨n516, l516, h⟩ := v_is h (by decide +kernel : pins 157 80 = some (6, 82, 4, 0, []))
    have h : prun n516 157 82 [(4, .int w79), (3, .int w77), (2, .int d1), (0, .ref t), (1, .int hh)] [] s19 = some x := h
    have h := prun_lv h (lv' := [(4, .int w79), (3, .int w77), (2, .int d1), (0, .ref t), (1, .int hh)]) (lvLe.cons (lvLe.cons (lvLe.cons (lvLe.cons (lvLe.cons lvLe.nil rfl) rfl) rfl) rfl) rfl) (by decide : ([4, 3, 2, 0, 1] : List Nat).Nodup) (by decide : ([4, 3, 2, 0, 1] : List Nat).Nodup)
    have q53 : w53.toInt = 16 * hh.toInt := by rw [e53, n_mul (by rw [i50]; omega) (by rw [i50]; omega), i50]
    have g20 : ∀ q, gI (vw t A s19) 20 q = gI (vw t A σ) 20 q := fun q => by rw [u19, gI_ne (by decide), u9, gI_ne (by decide)]
    have n53 : w53.toNatClampNeg = 16 * hh.toNatClampNeg := by rw [clampc q53 (by omega)]; omega
    have q54 : 0 ≤ w54.toInt ∧ w54.toInt ≤ 15 := by rw [e54, g20, n53]; exact hw
    have q58 : w58.toInt = 14 - d1.toInt := by rw [e58, n_sub (by rw [i55]; omega) (by rw [i55]; omega), i55]
    have qn : 0 ≤ w77.toInt ∧ w77.toInt ≤ 14 - d1.toInt := by rw [e77, n_sub (by rw [i74]; omega) (by rw [i74]; omega), i74]; omega
    obtain ⟨m2, c2, σ2, z1, z2, h⟩ := pc_ren2 hh0 ⟨qn.1, by omega⟩ _ _ _ x S19.1 ⟨by rw [i79]; decide, by rw [i79]; decide⟩ h
    obtain ⟨n701, l701, h⟩ := v_al h (by decide +kernel : pins 157 118 = some (5, 119, 0, 0, [])) (v := t) rfl
    obtain ⟨n702, l702, h⟩ := w_row (k := 21) z1.1 h (by decide +kernel : pins 157 119 = some (22, 122, 13, 21, [])) (by decide)
    obtain ⟨n703, w122, l703, ⟨e122, i122⟩, h⟩ := u_ic h (by decide +kernel : pins 157 122 = some (0, 124, 16, 0, [])) (by decide)
    obtain ⟨n704, l704, h⟩ := v_il h (by decide +kernel : pins 157 124 = some (3, 125, 1, 0, [])) (v := hh) rfl
    obtain ⟨n705, w125, l705, e125, h⟩ := u_mul h (by decide +kernel : pins 157 125 = some (10, 126, 2, 0, []))
    obtain ⟨n706, l706, h⟩ := v_il h (by decide +kernel : pins 157 126 = some (3, 127, 3, 0, [])) (v := w77) rfl
    obtain ⟨n707, w127, l707, e127, h⟩ := u_add h (by decide +kernel : pins 157 127 = some (10, 128, 0, 0, []))
    obtain ⟨n708, w128, l708, ⟨e128, i128⟩, h⟩ := u_ic h (by decide +kernel : pins 157 128 = some (0, 129, 1, 0, [])) (by decide)
    obtain ⟨n709, w129, l709, e129, h⟩ := u_add h (by decide +kernel : pins 157 129 = some (10, 130, 0, 0, []))
    obtain ⟨n710, w130, l710, ⟨e130, i130⟩, h⟩ := u_ic h (by decide +kernel : pins 157 130 = some (0, 132, 45, 0, [])) (by decide)
    obtain ⟨n711, s132, l711, b132, S132, u132, h⟩ := w_iast z1.1 h (by decide +kernel : pins 157 132 = some (28, 133, 0, 0, [])) (by decide)
    obtain ⟨n712, l712, h⟩ := v_al h (by decide +kernel : pins 157 133 = some (5, 134, 0, 0, [])) (v := t) rfl
    obtain ⟨n713, l713, h⟩ := w_row (k := 19) S132.1 h (by decide +kernel : pins 157 134 = some (22, 137, 13, 19, [])) (by decide)
    obtain ⟨n714, l714, h⟩ := v_il h (by decide +kernel : pins 157 137 = some (3, 138, 1, 0, [])) (v := hh) rfl
    obtain ⟨n715, w138, l715, b138, e138, h⟩ := w_iald S132.1 h (by decide +kernel : pins 157 138 = some (24, 139, 0, 0, [])) (by decide)
    obtain ⟨n716, l716, h⟩ := v_is h (by decide +kernel : pins 157 139 = some (6, 141, 4, 0, []))
    have h : prun n716 157 141 [(4, .int w138), (3, .int w77), (2, .int d1), (0, .ref t), (1, .int hh)] [] s132 = some x := h
    obtain ⟨n717, l717, h⟩ := v_il h (by decide +kernel : pins 157 141 = some (3, 142, 2, 0, [])) (v := d1) rfl
    obtain ⟨n718, l718, h⟩ := v_is h (by decide +kernel : pins 157 142 = some (6, 144, 5, 0, []))
    have h : prun n718 157 144 [(5, .int d1), (4, .int w138), (3, .int w77), (2, .int d1), (0, .ref t), (1, .int hh)] [] s132 = some x := h
    have h := prun_lv h (lv' := [(5, .int d1), (4, .int w138), (3, .int w77), (2, .int d1), (0, .ref t), (1, .int hh)]) (lvLe.cons (lvLe.cons (lvLe.cons (lvLe.cons (lvLe.cons (lvLe.cons lvLe.nil rfl) rfl) rfl) rfl) rfl) rfl) (by decide : ([5, 4, 3, 2, 0, 1] : List Nat).Nodup) (by decide : ([5, 4, 3, 2, 0, 1] : List Nat).Nodup)
    have q125 : w125.toInt = 16 * hh.toInt := by rw [e125, n_mul (by rw [i122]; omega) (by rw [i122]; omega), i122]
    have q127 : w127.toInt = 16 * hh.toInt + w77.toInt := by rw [addc e127 rfl (by omega) (by omega) (by omega) (by omega), q125]
    have q129 : w129.toInt = 16 * hh.toInt + w77.toInt + 1 := by rw [addc e129 i128 (by omega) (by omega) (by decide) (by decide), q127]
    have n129 : (w129.toNatClampNeg : Int) = 16 * hh.toInt + w77.toInt + 1 := by rw [n_clamp (by omega), q129]
    obtain ⟨m3, c3, v3, σ3, x1, x2, x3, x4, h⟩ := pc_ren3 hh0 ⟨qn.1, by omega⟩ _ _ _ _ x S132.1 ⟨by omega, by omega⟩ h
    obtain ⟨n901, l901, h⟩ := v_al h (by decide +kernel : pins 157 186 = some (5, 187, 0, 0, [])) (v := t) rfl
    obtain ⟨n902, l902, h⟩ := w_row (k := 21) x1.1 h (by decide +kernel : pins 157 187 = some (22, 190, 13, 21, [])) (by decide)
    obtain ⟨n903, w190, l903, ⟨e190, i190⟩, h⟩ := u_ic h (by decide +kernel : pins 157 190 = some (0, 192, 16, 0, [])) (by decide)
    obtain ⟨n904, l904, h⟩ := v_il h (by decide +kernel : pins 157 192 = some (3, 193, 1, 0, [])) (v := hh) rfl
    obtain ⟨n905, w193, l905, e193, h⟩ := u_mul h (by decide +kernel : pins 157 193 = some (10, 194, 2, 0, []))
    obtain ⟨n906, l906, h⟩ := v_il h (by decide +kernel : pins 157 194 = some (3, 195, 3, 0, [])) (v := w77) rfl
    obtain ⟨n907, w195, l907, ⟨e195, i195⟩, h⟩ := u_ic h (by decide +kernel : pins 157 195 = some (0, 196, 1, 0, [])) (by decide)
    obtain ⟨n908, w196, l908, e196, h⟩ := u_add h (by decide +kernel : pins 157 196 = some (10, 197, 0, 0, []))
    obtain ⟨n909, l909, h⟩ := v_il h (by decide +kernel : pins 157 197 = some (3, 198, 2, 0, [])) (v := d1) rfl
    obtain ⟨n910, w198, l910, e198, h⟩ := u_add h (by decide +kernel : pins 157 198 = some (10, 199, 0, 0, []))
    obtain ⟨n911, s199, l911, b199, S199, u199, h⟩ := w_iast x1.1 h (by decide +kernel : pins 157 199 = some (28, 200, 0, 0, [])) (by decide)
    obtain ⟨n912, l912, h⟩ := v_al h (by decide +kernel : pins 157 200 = some (5, 201, 0, 0, [])) (v := t) rfl
    obtain ⟨n913, l913, h⟩ := v_il h (by decide +kernel : pins 157 201 = some (3, 202, 1, 0, [])) (v := hh) rfl
    obtain ⟨n914, r202, s202, l914, h202, h⟩ := pinv_call h (by decide +kernel : pins 157 202 = some (36, 205, 156, 0, [2]))
    have h202 : prun n914 156 0 (lv_args 0 [.ref t, .int hh]) [] s199 = some (r202, s202) := h202
    obtain ⟨er202, S202, f202, a202, b202⟩ := pc_probesName S199.1 h202
    have er202 : r202 = none := er202
    subst er202
    try dsimp only at S202
    try dsimp only at f202
    try dsimp only at a202
    try dsimp only at b202
    have h : prun n914 157 205 [(5, .int c3), (4, .int v3), (3, .int w77), (2, .int d1), (0, .ref t), (1, .int hh)] [] s202 = some x := h
    have ex := u_ret37 h (by decide +kernel : pins 157 205 = some (37, 206, 0, 0, []))
    subst ex
    have q193 : w193.toInt = 16 * hh.toInt := by rw [e193, n_mul (by rw [i190]; omega) (by rw [i190]; omega), i190]
    have n193 : w193.toNatClampNeg = 16 * hh.toNatClampNeg := by rw [clampc q193 (by omega)]; omega
    have q196 : w196.toInt = w77.toInt + 1 := addc e196 i195 (by omega) (by omega) (by decide) (by decide)
    have q198 : w198.toInt = w77.toInt + 1 + d1.toInt := by rw [addc e198 rfl (by omega) (by omega) (by omega) (by omega), q196]
    have B : ∀ j q : Nat, ¬ (j = 21 ∧ 16 * hh.toNatClampNeg < q ∧ q < 16 * hh.toNatClampNeg + 16) → vw t A σ3 j q = vw t A s19 j q := by
      intro j q hj
      rw [x2 j q hj, u132]
      by_cases e : j = 21
      · subst e
        rw [up_ni (by decide) (fun e => hj ⟨rfl, by omega, by omega⟩), z2 _ q hj]
      · rw [up_ne e, z2 j q hj]
    have z : ∀ (V : Nat → Nat → Value) (r j q : Nat) (v : Value), isRw r = true → (¬ (j = r ∧ q = hh.toNatClampNeg)) → up V r hh.toNatClampNeg v j q = V j q := fun V r j q v hr h => by
      by_cases e : j = r
      · subst e; exact up_ni hr (fun e => h ⟨rfl, e⟩)
      · exact up_ne e
    have g19 : gI (vw t A s19) 19 hh.toNatClampNeg = gI (vw t A σ) 19 hh.toNatClampNeg + 1 := by rw [u19, gI_eq, e18, e16, u9, gI_ne (by decide), e17]; rfl
    have f19 : gI (vw t A s202) 19 hh.toNatClampNeg = gI (vw t A s19) 19 hh.toNatClampNeg := by unfold gI; rw [f202 19 _ (fun e => by omega), u199, up_ne (by decide), B 19 _ (fun e => by omega)]
    refine ⟨rfl, ((((((S9.tr S19).tr z1).tr S132).tr x1).tr S199).tr S202), fun j q h1 h2 => ?_, f19.trans g19, a202, b202, fun hm => ?_⟩
    · show vw t A s202 j q = _
      rw [f202 j q (fun e => h1 ⟨by omega, e.2⟩), u199]
      have e3 : up (vw t A σ3) 21 w193.toNatClampNeg (.int w198) j q = vw t A σ3 j q := by
        by_cases e : j = 21
        · subst e; exact up_ni (by decide) (fun e => h2 ⟨rfl, by omega, by omega⟩)
        · exact up_ne e
      rw [e3, B j q (fun e => h2 ⟨e.1, by omega, by omega⟩), u19, z _ _ _ _ _ (by decide) (fun e => h1 ⟨by omega, e.2⟩), u9, z _ _ _ _ _ (by decide) (fun e => h1 ⟨by omega, e.2⟩)]
    · have hm : (gI (vw t A s19) 19 hh.toNatClampNeg).toInt = -2147483648 := by rw [← f19]; exact hm
      have e27' : w27.toInt = -2147483648 := by rw [e27]; exact hm
      have e138' : w138.toInt = -2147483648 := by
        rw [e138, u132, gI_ne (by decide)]
        unfold gI
        rw [z2 19 _ (fun e => by omega)]
        exact hm
      have ed := y3 (by omega)
      have hd1 : d1.toInt = 1 := by rw [ed, i20]
      have x3 := x3 hd1 e138'
      have nw : (w77.toNatClampNeg : Int) = w77.toInt := n_clamp qn.1
      refine ⟨w77.toNatClampNeg + 2, by omega, ?_, ?_⟩
      · show _ ≤ (gI (vw t A s202) 21 (16 * hh.toNatClampNeg)).toInt
        have : gI (vw t A s202) 21 (16 * hh.toNatClampNeg) = w198 := by unfold gI; rw [f202 21 _ (fun e => by omega), u199, n193, up_eq]; rfl
        rw [this, q198]; omega
      · show (gI (vw t A s202) 21 _).toInt = 40
        have : gI (vw t A s202) 21 (16 * hh.toNatClampNeg + (w77.toNatClampNeg + 2)) = gI (vw t A σ3) 21 (16 * hh.toNatClampNeg + w77.toNatClampNeg + 2) := by unfold gI; rw [f202 21 _ (fun e => by omega), u199, n193, up_ni (by decide) (by omega), ← Nat.add_assoc]
        rw [this]; exact x3
  · obtain ⟨n517, l517, h⟩ := v_al h (by decide +kernel : pins 157 62 = some (5, 63, 0, 0, [])) (v := t) rfl
    obtain ⟨n518, l518, h⟩ := w_row (k := 20) S19.1 h (by decide +kernel : pins 157 63 = some (22, 66, 13, 20, [])) (by decide)
    obtain ⟨n519, w66, l519, ⟨e66, i66⟩, h⟩ := u_ic h (by decide +kernel : pins 157 66 = some (0, 68, 16, 0, [])) (by decide)
    obtain ⟨n520, l520, h⟩ := v_il h (by decide +kernel : pins 157 68 = some (3, 69, 1, 0, [])) (v := hh) rfl
    obtain ⟨n521, w69, l521, e69, h⟩ := u_mul h (by decide +kernel : pins 157 69 = some (10, 70, 2, 0, []))
    obtain ⟨n522, w70, l522, b70, e70, h⟩ := w_iald S19.1 h (by decide +kernel : pins 157 70 = some (24, 71, 0, 0, [])) (by decide)
    obtain ⟨n523, l523, h⟩ := u_go h (by decide +kernel : pins 157 71 = some (20, 74, 0, ((78 : Nat) : Int), []))
    obtain ⟨n524, l524, h⟩ := v_is h (by decide +kernel : pins 157 78 = some (6, 79, 3, 0, []))
    have h : prun n524 157 79 [(3, .int w70), (2, .int d1), (0, .ref t), (1, .int hh)] [] s19 = some x := h
    obtain ⟨n525, w79, l525, ⟨e79, i79⟩, h⟩ := u_ic h (by decide +kernel : pins 157 79 = some (0, 80, 1, 0, [])) (by decide)
    obtain ⟨n526, l526, h⟩ := v_is h (by decide +kernel : pins 157 80 = some (6, 82, 4, 0, []))
    have h : prun n526 157 82 [(4, .int w79), (3, .int w70), (2, .int d1), (0, .ref t), (1, .int hh)] [] s19 = some x := h
    have h := prun_lv h (lv' := [(4, .int w79), (3, .int w70), (2, .int d1), (0, .ref t), (1, .int hh)]) (lvLe.cons (lvLe.cons (lvLe.cons (lvLe.cons (lvLe.cons lvLe.nil rfl) rfl) rfl) rfl) rfl) (by decide : ([4, 3, 2, 0, 1] : List Nat).Nodup) (by decide : ([4, 3, 2, 0, 1] : List Nat).Nodup)
    have q53 : w53.toInt = 16 * hh.toInt := by rw [e53, n_mul (by rw [i50]; omega) (by rw [i50]; omega), i50]
    have q69 : w69.toInt = 16 * hh.toInt := by rw [e69, n_mul (by rw [i66]; omega) (by rw [i66]; omega), i66]
    have g20 : ∀ q, gI (vw t A s19) 20 q = gI (vw t A σ) 20 q := fun q => by rw [u19, gI_ne (by decide), u9, gI_ne (by decide)]
    have n53 : w53.toNatClampNeg = 16 * hh.toNatClampNeg := by rw [clampc q53 (by omega)]; omega
    have q54 : 0 ≤ w54.toInt ∧ w54.toInt ≤ 15 := by rw [e54, g20, n53]; exact hw
    have q58 : w58.toInt = 14 - d1.toInt := by rw [e58, n_sub (by rw [i55]; omega) (by rw [i55]; omega), i55]
    have n69 : w69.toNatClampNeg = 16 * hh.toNatClampNeg := by rw [clampc q69 (by omega)]; omega
    have qn : 0 ≤ w70.toInt ∧ w70.toInt ≤ 14 - d1.toInt := by rw [e70, n69, ← n53, ← e54]; omega
    obtain ⟨m2, c2, σ2, z1, z2, h⟩ := pc_ren2 hh0 ⟨qn.1, by omega⟩ _ _ _ x S19.1 ⟨by rw [i79]; decide, by rw [i79]; decide⟩ h
    obtain ⟨n701, l701, h⟩ := v_al h (by decide +kernel : pins 157 118 = some (5, 119, 0, 0, [])) (v := t) rfl
    obtain ⟨n702, l702, h⟩ := w_row (k := 21) z1.1 h (by decide +kernel : pins 157 119 = some (22, 122, 13, 21, [])) (by decide)
    obtain ⟨n703, w122, l703, ⟨e122, i122⟩, h⟩ := u_ic h (by decide +kernel : pins 157 122 = some (0, 124, 16, 0, [])) (by decide)
    obtain ⟨n704, l704, h⟩ := v_il h (by decide +kernel : pins 157 124 = some (3, 125, 1, 0, [])) (v := hh) rfl
    obtain ⟨n705, w125, l705, e125, h⟩ := u_mul h (by decide +kernel : pins 157 125 = some (10, 126, 2, 0, []))
    obtain ⟨n706, l706, h⟩ := v_il h (by decide +kernel : pins 157 126 = some (3, 127, 3, 0, [])) (v := w70) rfl
    obtain ⟨n707, w127, l707, e127, h⟩ := u_add h (by decide +kernel : pins 157 127 = some (10, 128, 0, 0, []))
    obtain ⟨n708, w128, l708, ⟨e128, i128⟩, h⟩ := u_ic h (by decide +kernel : pins 157 128 = some (0, 129, 1, 0, [])) (by decide)
    obtain ⟨n709, w129, l709, e129, h⟩ := u_add h (by decide +kernel : pins 157 129 = some (10, 130, 0, 0, []))
    obtain ⟨n710, w130, l710, ⟨e130, i130⟩, h⟩ := u_ic h (by decide +kernel : pins 157 130 = some (0, 132, 45, 0, [])) (by decide)
    obtain ⟨n711, s132, l711, b132, S132, u132, h⟩ := w_iast z1.1 h (by decide +kernel : pins 157 132 = some (28, 133, 0, 0, [])) (by decide)
    obtain ⟨n712, l712, h⟩ := v_al h (by decide +kernel : pins 157 133 = some (5, 134, 0, 0, [])) (v := t) rfl
    obtain ⟨n713, l713, h⟩ := w_row (k := 19) S132.1 h (by decide +kernel : pins 157 134 = some (22, 137, 13, 19, [])) (by decide)
    obtain ⟨n714, l714, h⟩ := v_il h (by decide +kernel : pins 157 137 = some (3, 138, 1, 0, [])) (v := hh) rfl
    obtain ⟨n715, w138, l715, b138, e138, h⟩ := w_iald S132.1 h (by decide +kernel : pins 157 138 = some (24, 139, 0, 0, [])) (by decide)
    obtain ⟨n716, l716, h⟩ := v_is h (by decide +kernel : pins 157 139 = some (6, 141, 4, 0, []))
    have h : prun n716 157 141 [(4, .int w138), (3, .int w70), (2, .int d1), (0, .ref t), (1, .int hh)] [] s132 = some x := h
    obtain ⟨n717, l717, h⟩ := v_il h (by decide +kernel : pins 157 141 = some (3, 142, 2, 0, [])) (v := d1) rfl
    obtain ⟨n718, l718, h⟩ := v_is h (by decide +kernel : pins 157 142 = some (6, 144, 5, 0, []))
    have h : prun n718 157 144 [(5, .int d1), (4, .int w138), (3, .int w70), (2, .int d1), (0, .ref t), (1, .int hh)] [] s132 = some x := h
    have h := prun_lv h (lv' := [(5, .int d1), (4, .int w138), (3, .int w70), (2, .int d1), (0, .ref t), (1, .int hh)]) (lvLe.cons (lvLe.cons (lvLe.cons (lvLe.cons (lvLe.cons (lvLe.cons lvLe.nil rfl) rfl) rfl) rfl) rfl) rfl) (by decide : ([5, 4, 3, 2, 0, 1] : List Nat).Nodup) (by decide : ([5, 4, 3, 2, 0, 1] : List Nat).Nodup)
    have q125 : w125.toInt = 16 * hh.toInt := by rw [e125, n_mul (by rw [i122]; omega) (by rw [i122]; omega), i122]
    have q127 : w127.toInt = 16 * hh.toInt + w70.toInt := by rw [addc e127 rfl (by omega) (by omega) (by omega) (by omega), q125]
    have q129 : w129.toInt = 16 * hh.toInt + w70.toInt + 1 := by rw [addc e129 i128 (by omega) (by omega) (by decide) (by decide), q127]
    have n129 : (w129.toNatClampNeg : Int) = 16 * hh.toInt + w70.toInt + 1 := by rw [n_clamp (by omega), q129]
    obtain ⟨m3, c3, v3, σ3, x1, x2, x3, x4, h⟩ := pc_ren3 hh0 ⟨qn.1, by omega⟩ _ _ _ _ x S132.1 ⟨by omega, by omega⟩ h
    obtain ⟨n901, l901, h⟩ := v_al h (by decide +kernel : pins 157 186 = some (5, 187, 0, 0, [])) (v := t) rfl
    obtain ⟨n902, l902, h⟩ := w_row (k := 21) x1.1 h (by decide +kernel : pins 157 187 = some (22, 190, 13, 21, [])) (by decide)
    obtain ⟨n903, w190, l903, ⟨e190, i190⟩, h⟩ := u_ic h (by decide +kernel : pins 157 190 = some (0, 192, 16, 0, [])) (by decide)
    obtain ⟨n904, l904, h⟩ := v_il h (by decide +kernel : pins 157 192 = some (3, 193, 1, 0, [])) (v := hh) rfl
    obtain ⟨n905, w193, l905, e193, h⟩ := u_mul h (by decide +kernel : pins 157 193 = some (10, 194, 2, 0, []))
    obtain ⟨n906, l906, h⟩ := v_il h (by decide +kernel : pins 157 194 = some (3, 195, 3, 0, [])) (v := w70) rfl
    obtain ⟨n907, w195, l907, ⟨e195, i195⟩, h⟩ := u_ic h (by decide +kernel : pins 157 195 = some (0, 196, 1, 0, [])) (by decide)
    obtain ⟨n908, w196, l908, e196, h⟩ := u_add h (by decide +kernel : pins 157 196 = some (10, 197, 0, 0, []))
    obtain ⟨n909, l909, h⟩ := v_il h (by decide +kernel : pins 157 197 = some (3, 198, 2, 0, [])) (v := d1) rfl
    obtain ⟨n910, w198, l910, e198, h⟩ := u_add h (by decide +kernel : pins 157 198 = some (10, 199, 0, 0, []))
    obtain ⟨n911, s199, l911, b199, S199, u199, h⟩ := w_iast x1.1 h (by decide +kernel : pins 157 199 = some (28, 200, 0, 0, [])) (by decide)
    obtain ⟨n912, l912, h⟩ := v_al h (by decide +kernel : pins 157 200 = some (5, 201, 0, 0, [])) (v := t) rfl
    obtain ⟨n913, l913, h⟩ := v_il h (by decide +kernel : pins 157 201 = some (3, 202, 1, 0, [])) (v := hh) rfl
    obtain ⟨n914, r202, s202, l914, h202, h⟩ := pinv_call h (by decide +kernel : pins 157 202 = some (36, 205, 156, 0, [2]))
    have h202 : prun n914 156 0 (lv_args 0 [.ref t, .int hh]) [] s199 = some (r202, s202) := h202
    obtain ⟨er202, S202, f202, a202, b202⟩ := pc_probesName S199.1 h202
    have er202 : r202 = none := er202
    subst er202
    try dsimp only at S202
    try dsimp only at f202
    try dsimp only at a202
    try dsimp only at b202
    have h : prun n914 157 205 [(5, .int c3), (4, .int v3), (3, .int w70), (2, .int d1), (0, .ref t), (1, .int hh)] [] s202 = some x := h
    have ex := u_ret37 h (by decide +kernel : pins 157 205 = some (37, 206, 0, 0, []))
    subst ex
    have q193 : w193.toInt = 16 * hh.toInt := by rw [e193, n_mul (by rw [i190]; omega) (by rw [i190]; omega), i190]
    have n193 : w193.toNatClampNeg = 16 * hh.toNatClampNeg := by rw [clampc q193 (by omega)]; omega
    have q196 : w196.toInt = w70.toInt + 1 := addc e196 i195 (by omega) (by omega) (by decide) (by decide)
    have q198 : w198.toInt = w70.toInt + 1 + d1.toInt := by rw [addc e198 rfl (by omega) (by omega) (by omega) (by omega), q196]
    have B : ∀ j q : Nat, ¬ (j = 21 ∧ 16 * hh.toNatClampNeg < q ∧ q < 16 * hh.toNatClampNeg + 16) → vw t A σ3 j q = vw t A s19 j q := by
      intro j q hj
      rw [x2 j q hj, u132]
      by_cases e : j = 21
      · subst e
        rw [up_ni (by decide) (fun e => hj ⟨rfl, by omega, by omega⟩), z2 _ q hj]
      · rw [up_ne e, z2 j q hj]
    have z : ∀ (V : Nat → Nat → Value) (r j q : Nat) (v : Value), isRw r = true → (¬ (j = r ∧ q = hh.toNatClampNeg)) → up V r hh.toNatClampNeg v j q = V j q := fun V r j q v hr h => by
      by_cases e : j = r
      · subst e; exact up_ni hr (fun e => h ⟨rfl, e⟩)
      · exact up_ne e
    have g19 : gI (vw t A s19) 19 hh.toNatClampNeg = gI (vw t A σ) 19 hh.toNatClampNeg + 1 := by rw [u19, gI_eq, e18, e16, u9, gI_ne (by decide), e17]; rfl
    have f19 : gI (vw t A s202) 19 hh.toNatClampNeg = gI (vw t A s19) 19 hh.toNatClampNeg := by unfold gI; rw [f202 19 _ (fun e => by omega), u199, up_ne (by decide), B 19 _ (fun e => by omega)]
    refine ⟨rfl, ((((((S9.tr S19).tr z1).tr S132).tr x1).tr S199).tr S202), fun j q h1 h2 => ?_, f19.trans g19, a202, b202, fun hm => ?_⟩
    · show vw t A s202 j q = _
      rw [f202 j q (fun e => h1 ⟨by omega, e.2⟩), u199]
      have e3 : up (vw t A σ3) 21 w193.toNatClampNeg (.int w198) j q = vw t A σ3 j q := by
        by_cases e : j = 21
        · subst e; exact up_ni (by decide) (fun e => h2 ⟨rfl, by omega, by omega⟩)
        · exact up_ne e
      rw [e3, B j q (fun e => h2 ⟨e.1, by omega, by omega⟩), u19, z _ _ _ _ _ (by decide) (fun e => h1 ⟨by omega, e.2⟩), u9, z _ _ _ _ _ (by decide) (fun e => h1 ⟨by omega, e.2⟩)]
    · have hm : (gI (vw t A s19) 19 hh.toNatClampNeg).toInt = -2147483648 := by rw [← f19]; exact hm
      have e27' : w27.toInt = -2147483648 := by rw [e27]; exact hm
      have e138' : w138.toInt = -2147483648 := by
        rw [e138, u132, gI_ne (by decide)]
        unfold gI
        rw [z2 19 _ (fun e => by omega)]
        exact hm
      have ed := y3 (by omega)
      have hd1 : d1.toInt = 1 := by rw [ed, i20]
      have x3 := x3 hd1 e138'
      have nw : (w70.toNatClampNeg : Int) = w70.toInt := n_clamp qn.1
      refine ⟨w70.toNatClampNeg + 2, by omega, ?_, ?_⟩
      · show _ ≤ (gI (vw t A s202) 21 (16 * hh.toNatClampNeg)).toInt
        have : gI (vw t A s202) 21 (16 * hh.toNatClampNeg) = w198 := by unfold gI; rw [f202 21 _ (fun e => by omega), u199, n193, up_eq]; rfl
        rw [this, q198]; omega
      · show (gI (vw t A s202) 21 _).toInt = 40
        have : gI (vw t A s202) 21 (16 * hh.toNatClampNeg + (w70.toNatClampNeg + 2)) = gI (vw t A σ3) 21 (16 * hh.toNatClampNeg + w70.toNatClampNeg + 2) := by unfold gI; rw [f202 21 _ (fun e => by omega), u199, n193, up_ni (by decide) (by omega), ← Nat.add_assoc]
        rw [this]; exact x3
