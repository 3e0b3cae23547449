def mayD (V : Nat → Nat → Value) (h : Nat) : Prop := (gL V 15 h).toInt = 9223372036854775807 ∨ 10000 ≤ (gL V 0 0 - gL V 15 h).toInt
def Mov (V V' : Nat → Nat → Value) (h : Nat) : Prop := (∀ j q : Nat, ¬ ((j = 7 ∨ j = 8 ∨ j = 12 ∨ j = 13 ∨ j = 14 ∨ j = 16 ∨ j = 18) ∧ q = h) → V' j q = V j q) ∧ gI V' 7 h = gI V 7 h + 1 ∧ ¬ (gI V' 16 h).toInt = 3 ∧ (gL V' 18 h = gL V 18 h ∨ (gL V' 18 h).toInt = 9223372036854775807)
theorem pc_aprobe {t n : Nat} {A : Nat → Nat} {hh a fr : Int32} {σ : ps} {x : Option Value × ps} (W : Wld t A σ) (h : prun n 173 0 (lv_args 0 [.ref t, .int hh, .int a, .int fr]) [] σ = some x) (HA : 0 ≤ (gI (vw t A σ) 46 0).toInt ∧ (gI (vw t A σ) 46 0).toInt < 800) (HM : 0 ≤ (gI (vw t A σ) 47 0).toInt ∧ (gI (vw t A σ) 47 0).toInt ≤ 1000) : x.1 = none ∧ SP t A σ x.2 ∧ (vw t A x.2 = vw t A σ ∨ (FrS (vw t A σ) (vw t A x.2) ∧ Snd (vw t A σ) (vw t A x.2) 1) ∨ (a.toInt = adr (vw t A σ) hh.toNatClampNeg ∧ Mov (vw t A σ) (vw t A x.2) hh.toNatClampNeg)) := by
  have h : prun n 173 0 [(0, .ref t), (1, .int hh), (2, .int a), (3, .int fr)] [] σ = some x := h
  obtain ⟨n1, l1, h⟩ := v_il h (by decide +kernel : pins 173 0 = some (3, 1, 3, 0, [])) (v := fr) rfl
  obtain ⟨n2, l2, h⟩ := v_al h (by decide +kernel : pins 173 1 = some (5, 2, 0, 0, [])) (v := t) rfl
  obtain ⟨n3, l3, h⟩ := w_row (k := 5) W h (by decide +kernel : pins 173 2 = some (22, 5, 13, 5, [])) (by decide)
  obtain ⟨n4, l4, h⟩ := v_il h (by decide +kernel : pins 173 5 = some (3, 6, 1, 0, [])) (v := hh) rfl
  obtain ⟨n5, w6, l5, b6, e6, h⟩ := w_iald W h (by decide +kernel : pins 173 6 = some (24, 7, 0, 0, [])) (by decide)
  obtain ⟨n6, l6, ⟨c7, h⟩ | ⟨c7, h⟩⟩ := u_ic0 h (by decide +kernel : pins 173 7 = some (17, 10, 0, ((19 : Nat) : Int), []))
  · have ex := u_ret37 h (by decide +kernel : pins 173 19 = some (37, 20, 0, 0, []))
    subst ex
    exact ⟨rfl, SP.rf W, Or.inl rfl⟩
  · obtain ⟨n8, l8, h⟩ := v_il h (by decide +kernel : pins 173 10 = some (3, 11, 2, 0, [])) (v := a) rfl
    obtain ⟨n9, l9, h⟩ := v_al h (by decide +kernel : pins 173 11 = some (5, 12, 0, 0, [])) (v := t) rfl
    obtain ⟨n10, l10, h⟩ := v_il h (by decide +kernel : pins 173 12 = some (3, 13, 1, 0, [])) (v := hh) rfl
    obtain ⟨n11, r13, s13, l11, h13, h⟩ := pinv_call h (by decide +kernel : pins 173 13 = some (36, 16, 148, 0, [2]))
    have h13 : prun n11 148 0 (lv_args 0 [.ref t, .int hh]) [] σ = some (r13, s13) := h13
    obtain ⟨es13, w13, er13, f13⟩ := pc_address W h13
    have er13 : r13 = some (.int w13) := er13
    have et13 : s13 = σ := es13
    rw [et13] at h
    subst er13
    have h : prun n11 173 16 [(0, .ref t), (1, .int hh), (2, .int a), (3, .int fr)] [.int w13, .int a] σ = some x := h
    obtain ⟨n12, l12, ⟨c16, h⟩ | ⟨c16, h⟩⟩ := u_ic0 h (by decide +kernel : pins 173 16 = some (17, 19, 0, ((20 : Nat) : Int), []))
    · obtain ⟨n13, l13, h⟩ := v_al h (by decide +kernel : pins 173 20 = some (5, 21, 0, 0, [])) (v := t) rfl
      obtain ⟨n14, l14, h⟩ := w_row (k := 13) W h (by decide +kernel : pins 173 21 = some (22, 24, 13, 13, [])) (by decide)
      obtain ⟨n15, l15, h⟩ := v_il h (by decide +kernel : pins 173 24 = some (3, 25, 1, 0, [])) (v := hh) rfl
      obtain ⟨n16, w25, l16, b25, e25, h⟩ := w_bald W h (by decide +kernel : pins 173 25 = some (25, 26, 0, 0, [])) (by decide)
      obtain ⟨n17, l17, ⟨c26, h⟩ | ⟨c26, h⟩⟩ := u_if0 h (by decide +kernel : pins 173 26 = some (16, 29, 0, ((38 : Nat) : Int), []))
      · obtain ⟨n18, l18, h⟩ := v_al h (by decide +kernel : pins 173 38 = some (5, 39, 0, 0, [])) (v := t) rfl
        obtain ⟨n19, l19, h⟩ := w_row (k := 5) W h (by decide +kernel : pins 173 39 = some (22, 42, 13, 5, [])) (by decide)
        obtain ⟨n20, l20, h⟩ := v_il h (by decide +kernel : pins 173 42 = some (3, 43, 1, 0, [])) (v := hh) rfl
        obtain ⟨n21, w43, l21, b43, e43, h⟩ := w_iald W h (by decide +kernel : pins 173 43 = some (24, 44, 0, 0, [])) (by decide)
        obtain ⟨n22, l22, h⟩ := v_il h (by decide +kernel : pins 173 44 = some (3, 45, 3, 0, [])) (v := fr) rfl
        obtain ⟨n23, l23, ⟨c45, h⟩ | ⟨c45, h⟩⟩ := u_ic5 h (by decide +kernel : pins 173 45 = some (17, 48, 5, ((53 : Nat) : Int), []))
        · have ex := u_ret37 h (by decide +kernel : pins 173 53 = some (37, 54, 0, 0, []))
          subst ex
          exact ⟨rfl, SP.rf W, Or.inl rfl⟩
        · obtain ⟨n25, l25, h⟩ := v_al h (by decide +kernel : pins 173 48 = some (5, 49, 0, 0, [])) (v := t) rfl
          obtain ⟨n26, l26, h⟩ := v_il h (by decide +kernel : pins 173 49 = some (3, 50, 1, 0, [])) (v := hh) rfl
          obtain ⟨n27, r50, s50, l27, h50, h⟩ := pinv_call h (by decide +kernel : pins 173 50 = some (36, 53, 155, 0, [2]))
          have h50 : prun n27 155 0 (lv_args 0 [.ref t, .int hh]) [] σ = some (r50, s50) := h50
          obtain ⟨er50, S50, N50⟩ := pc_movesOn W h50
          have er50 : r50 = none := er50
          subst er50
          try dsimp only at S50
          try dsimp only at N50
          have h : prun n27 173 53 [(0, .ref t), (1, .int hh), (2, .int a), (3, .int fr)] [] s50 = some x := h
          have ex := u_ret37 h (by decide +kernel : pins 173 53 = some (37, 54, 0, 0, []))
          subst ex
          exact ⟨rfl, S50, Or.inr (Or.inr ⟨by rw [← f13]; exact c16, N50⟩)⟩
      · obtain ⟨n29, l29, h⟩ := v_al h (by decide +kernel : pins 173 29 = some (5, 30, 0, 0, [])) (v := t) rfl
        obtain ⟨n30, l30, h⟩ := v_il h (by decide +kernel : pins 173 30 = some (3, 31, 1, 0, [])) (v := hh) rfl
        obtain ⟨n31, w31, l31, ⟨e31, i31⟩, h⟩ := u_ic h (by decide +kernel : pins 173 31 = some (0, 32, 2, 0, [])) (by decide)
        obtain ⟨n32, r32, s32, l32, h32, h⟩ := pinv_call h (by decide +kernel : pins 173 32 = some (36, 35, 149, 0, [3]))
        have h32 : prun n32 149 0 (lv_args 0 [.ref t, .int hh, .int w31]) [] σ = some (r32, s32) := h32
        obtain ⟨er32, S32, f32, N32⟩ := pc_sendAddress W h32 HA HM (by right; rw [e31]; decide)
        have er32 : r32 = none := er32
        subst er32
        try dsimp only at S32
        try dsimp only at f32
        try dsimp only at N32
        have h : prun n32 173 35 [(0, .ref t), (1, .int hh), (2, .int a), (3, .int fr)] [] s32 = some x := h
        obtain ⟨n33, l33, h⟩ := u_go h (by decide +kernel : pins 173 35 = some (20, 38, 0, ((53 : Nat) : Int), []))
        have ex := u_ret37 h (by decide +kernel : pins 173 53 = some (37, 54, 0, 0, []))
        subst ex
        obtain ⟨p, n1, _, n2⟩ := N32
        have := n2 (by rw [i31])
        subst this
        exact ⟨rfl, S32, Or.inr (Or.inl ⟨f32, n1⟩)⟩
    · have ex := u_ret37 h (by decide +kernel : pins 173 19 = some (37, 20, 0, 0, []))
      subst ex
      exact ⟨rfl, SP.rf W, Or.inl rfl⟩
theorem pc_atell {t n : Nat} {A : Nat → Nat} {hh a fr : Int32} {σ : ps} {x : Option Value × ps} (W : Wld t A σ) (h : prun n 174 0 (lv_args 0 [.ref t, .int hh, .int a, .int fr]) [] σ = some x) (HA : 0 ≤ (gI (vw t A σ) 46 0).toInt ∧ (gI (vw t A σ) 46 0).toInt < 800) (HM : 0 ≤ (gI (vw t A σ) 47 0).toInt ∧ (gI (vw t A σ) 47 0).toInt ≤ 1000) : x.1 = none ∧ SP t A σ x.2 ∧ (vw t A x.2 = vw t A σ ∨ (mayD (vw t A σ) hh.toNatClampNeg ∧ ∃ V1, V1 = up (vw t A σ) 15 hh.toNatClampNeg (.long (gL (vw t A σ) 0 0)) ∧ FrS V1 (vw t A x.2) ∧ Snd V1 (vw t A x.2) 1) ∨ (a.toInt = adr (vw t A σ) hh.toNatClampNeg ∧ Mov (vw t A σ) (vw t A x.2) hh.toNatClampNeg)) := by
  have h : prun n 174 0 [(0, .ref t), (1, .int hh), (2, .int a), (3, .int fr)] [] σ = some x := h
  obtain ⟨n1, l1, h⟩ := v_il h (by decide +kernel : pins 174 0 = some (3, 1, 3, 0, [])) (v := fr) rfl
  obtain ⟨n2, l2, h⟩ := v_al h (by decide +kernel : pins 174 1 = some (5, 2, 0, 0, [])) (v := t) rfl
  obtain ⟨n3, l3, h⟩ := w_row (k := 5) W h (by decide +kernel : pins 174 2 = some (22, 5, 13, 5, [])) (by decide)
  obtain ⟨n4, l4, h⟩ := v_il h (by decide +kernel : pins 174 5 = some (3, 6, 1, 0, [])) (v := hh) rfl
  obtain ⟨n5, w6, l5, b6, e6, h⟩ := w_iald W h (by decide +kernel : pins 174 6 = some (24, 7, 0, 0, [])) (by decide)
  obtain ⟨n6, l6, ⟨c7, h⟩ | ⟨c7, h⟩⟩ := u_ic0 h (by decide +kernel : pins 174 7 = some (17, 10, 0, ((19 : Nat) : Int), []))
  · have ex := u_ret37 h (by decide +kernel : pins 174 19 = some (37, 20, 0, 0, []))
    subst ex
    exact ⟨rfl, SP.rf W, Or.inl rfl⟩
  · obtain ⟨n8, l8, h⟩ := v_il h (by decide +kernel : pins 174 10 = some (3, 11, 2, 0, [])) (v := a) rfl
    obtain ⟨n9, l9, h⟩ := v_al h (by decide +kernel : pins 174 11 = some (5, 12, 0, 0, [])) (v := t) rfl
    obtain ⟨n10, l10, h⟩ := v_il h (by decide +kernel : pins 174 12 = some (3, 13, 1, 0, [])) (v := hh) rfl
    obtain ⟨n11, r13, s13, l11, h13, h⟩ := pinv_call h (by decide +kernel : pins 174 13 = some (36, 16, 148, 0, [2]))
    have h13 : prun n11 148 0 (lv_args 0 [.ref t, .int hh]) [] σ = some (r13, s13) := h13
    obtain ⟨es13, w13, er13, f13⟩ := pc_address W h13
    have er13 : r13 = some (.int w13) := er13
    have et13 : s13 = σ := es13
    rw [et13] at h
    subst er13
    have h : prun n11 174 16 [(0, .ref t), (1, .int hh), (2, .int a), (3, .int fr)] [.int w13, .int a] σ = some x := h
    obtain ⟨n12, l12, ⟨c16, h⟩ | ⟨c16, h⟩⟩ := u_ic0 h (by decide +kernel : pins 174 16 = some (17, 19, 0, ((20 : Nat) : Int), []))
    · obtain ⟨n13, l13, h⟩ := v_al h (by decide +kernel : pins 174 20 = some (5, 21, 0, 0, [])) (v := t) rfl
      obtain ⟨n14, l14, h⟩ := w_row (k := 13) W h (by decide +kernel : pins 174 21 = some (22, 24, 13, 13, [])) (by decide)
      obtain ⟨n15, l15, h⟩ := v_il h (by decide +kernel : pins 174 24 = some (3, 25, 1, 0, [])) (v := hh) rfl
      obtain ⟨n16, w25, l16, b25, e25, h⟩ := w_bald W h (by decide +kernel : pins 174 25 = some (25, 26, 0, 0, [])) (by decide)
      obtain ⟨n17, l17, ⟨c26, h⟩ | ⟨c26, h⟩⟩ := u_if0 h (by decide +kernel : pins 174 26 = some (16, 29, 0, ((79 : Nat) : Int), []))
      · obtain ⟨n18, l18, h⟩ := v_al h (by decide +kernel : pins 174 79 = some (5, 80, 0, 0, [])) (v := t) rfl
        obtain ⟨n19, l19, h⟩ := v_il h (by decide +kernel : pins 174 80 = some (3, 81, 1, 0, [])) (v := hh) rfl
        obtain ⟨n20, r81, s81, l20, h81, h⟩ := pinv_call h (by decide +kernel : pins 174 81 = some (36, 84, 155, 0, [2]))
        have h81 : prun n20 155 0 (lv_args 0 [.ref t, .int hh]) [] σ = some (r81, s81) := h81
        obtain ⟨er81, S81, N81⟩ := pc_movesOn W h81
        have er81 : r81 = none := er81
        subst er81
        try dsimp only at S81
        try dsimp only at N81
        have h : prun n20 174 84 [(0, .ref t), (1, .int hh), (2, .int a), (3, .int fr)] [] s81 = some x := h
        have ex := u_ret37 h (by decide +kernel : pins 174 84 = some (37, 85, 0, 0, []))
        subst ex
        exact ⟨rfl, S81, Or.inr (Or.inr ⟨by rw [← f13]; exact c16, N81⟩)⟩
      · obtain ⟨n22, l22, h⟩ := v_al h (by decide +kernel : pins 174 29 = some (5, 30, 0, 0, [])) (v := t) rfl
        obtain ⟨n23, l23, h⟩ := w_row (k := 15) W h (by decide +kernel : pins 174 30 = some (22, 33, 13, 15, [])) (by decide)
        obtain ⟨n24, l24, h⟩ := v_il h (by decide +kernel : pins 174 33 = some (3, 34, 1, 0, [])) (v := hh) rfl
        obtain ⟨n25, w34, l25, b34, e34, h⟩ := w_lald W h (by decide +kernel : pins 174 34 = some (26, 35, 0, 0, [])) (by decide)
        obtain ⟨n26, w35, l26, e35, h⟩ := u_lc h (by decide +kernel : pins 174 35 = some (1, 38, 9223372036854775807, 0, []))
        have i35 : w35.toInt = 9223372036854775807 := by rw [e35]; decide
        obtain ⟨n27, w38, l27, e38, h⟩ := u_lcmp h (by decide +kernel : pins 174 38 = some (12, 39, 0, 0, []))
        obtain ⟨n28, l28, ⟨c39, h⟩ | ⟨c39, h⟩⟩ := u_if0 h (by decide +kernel : pins 174 39 = some (16, 42, 0, ((60 : Nat) : Int), []))
        · obtain ⟨n29, l29, h⟩ := v_al h (by decide +kernel : pins 174 60 = some (5, 61, 0, 0, [])) (v := t) rfl
          obtain ⟨n30, l30, h⟩ := w_row (k := 15) W h (by decide +kernel : pins 174 61 = some (22, 64, 13, 15, [])) (by decide)
          obtain ⟨n31, l31, h⟩ := v_il h (by decide +kernel : pins 174 64 = some (3, 65, 1, 0, [])) (v := hh) rfl
          obtain ⟨n32, l32, h⟩ := v_al h (by decide +kernel : pins 174 65 = some (5, 66, 0, 0, [])) (v := t) rfl
          obtain ⟨n33, w66, l33, e66, h⟩ := w_fl W h (by decide +kernel : pins 174 66 = some (22, 69, 13, 0, []))
          obtain ⟨n34, s69, l34, b69, S69, u69, h⟩ := w_last W h (by decide +kernel : pins 174 69 = some (30, 70, 0, 0, [])) (by decide)
          obtain ⟨n35, l35, h⟩ := v_al h (by decide +kernel : pins 174 70 = some (5, 71, 0, 0, [])) (v := t) rfl
          obtain ⟨n36, l36, h⟩ := v_il h (by decide +kernel : pins 174 71 = some (3, 72, 1, 0, [])) (v := hh) rfl
          obtain ⟨n37, w72, l37, ⟨e72, i72⟩, h⟩ := u_ic h (by decide +kernel : pins 174 72 = some (0, 73, 2, 0, [])) (by decide)
          obtain ⟨n38, r73, s73, l38, h73, h⟩ := pinv_call h (by decide +kernel : pins 174 73 = some (36, 76, 149, 0, [3]))
          have h73 : prun n38 149 0 (lv_args 0 [.ref t, .int hh, .int w72]) [] s69 = some (r73, s73) := h73
          have HA2 : 0 ≤ (gI (vw t A s69) 46 0).toInt ∧ (gI (vw t A s69) 46 0).toInt < 800 := by rw [u69, gI_ne (by decide)]; exact HA
          have HM2 : 0 ≤ (gI (vw t A s69) 47 0).toInt ∧ (gI (vw t A s69) 47 0).toInt ≤ 1000 := by rw [u69, gI_ne (by decide)]; exact HM
          obtain ⟨er73, S73, f73, N73⟩ := pc_sendAddress S69.1 h73 HA2 HM2 (by right; rw [e72]; decide)
          have er73 : r73 = none := er73
          subst er73
          try dsimp only at S73
          try dsimp only at f73
          try dsimp only at N73
          have h : prun n38 174 76 [(0, .ref t), (1, .int hh), (2, .int a), (3, .int fr)] [] s73 = some x := h
          obtain ⟨n39, l39, h⟩ := u_go h (by decide +kernel : pins 174 76 = some (20, 79, 0, ((84 : Nat) : Int), []))
          have ex := u_ret37 h (by decide +kernel : pins 174 84 = some (37, 85, 0, 0, []))
          subst ex
          obtain ⟨p, n1, _, n2⟩ := N73
          have := n2 (by rw [i72])
          subst this
          refine ⟨rfl, (S69.tr S73), Or.inr (Or.inl ⟨?_, ?_⟩)⟩
          · exact Or.inl (by rw [← e34]; omega)
          · rw [e66] at u69
            exact ⟨_, u69, f73, n1⟩
        · obtain ⟨n41, l41, h⟩ := v_al h (by decide +kernel : pins 174 42 = some (5, 43, 0, 0, [])) (v := t) rfl
          obtain ⟨n42, w43, l42, e43, h⟩ := w_fl W h (by decide +kernel : pins 174 43 = some (22, 46, 13, 0, []))
          obtain ⟨n43, l43, h⟩ := v_al h (by decide +kernel : pins 174 46 = some (5, 47, 0, 0, [])) (v := t) rfl
          obtain ⟨n44, l44, h⟩ := w_row (k := 15) W h (by decide +kernel : pins 174 47 = some (22, 50, 13, 15, [])) (by decide)
          obtain ⟨n45, l45, h⟩ := v_il h (by decide +kernel : pins 174 50 = some (3, 51, 1, 0, [])) (v := hh) rfl
          obtain ⟨n46, w51, l46, b51, e51, h⟩ := w_lald W h (by decide +kernel : pins 174 51 = some (26, 52, 0, 0, [])) (by decide)
          obtain ⟨n47, w52, l47, e52, h⟩ := u_lsub h (by decide +kernel : pins 174 52 = some (11, 53, 1, 0, []))
          obtain ⟨n48, w53, l48, e53, h⟩ := u_lc h (by decide +kernel : pins 174 53 = some (1, 56, 10000, 0, []))
          have i53 : w53.toInt = 10000 := by rw [e53]; decide
          obtain ⟨n49, w56, l49, e56, h⟩ := u_lcmp h (by decide +kernel : pins 174 56 = some (12, 57, 0, 0, []))
          obtain ⟨n50, l50, ⟨c57, h⟩ | ⟨c57, h⟩⟩ := u_if2 h (by decide +kernel : pins 174 57 = some (16, 60, 2, ((79 : Nat) : Int), []))
          · obtain ⟨n51, l51, h⟩ := v_al h (by decide +kernel : pins 174 79 = some (5, 80, 0, 0, [])) (v := t) rfl
            obtain ⟨n52, l52, h⟩ := v_il h (by decide +kernel : pins 174 80 = some (3, 81, 1, 0, [])) (v := hh) rfl
            obtain ⟨n53, r81, s81, l53, h81, h⟩ := pinv_call h (by decide +kernel : pins 174 81 = some (36, 84, 155, 0, [2]))
            have h81 : prun n53 155 0 (lv_args 0 [.ref t, .int hh]) [] σ = some (r81, s81) := h81
            obtain ⟨er81, S81, N81⟩ := pc_movesOn W h81
            have er81 : r81 = none := er81
            subst er81
            try dsimp only at S81
            try dsimp only at N81
            have h : prun n53 174 84 [(0, .ref t), (1, .int hh), (2, .int a), (3, .int fr)] [] s81 = some x := h
            have ex := u_ret37 h (by decide +kernel : pins 174 84 = some (37, 85, 0, 0, []))
            subst ex
            exact ⟨rfl, S81, Or.inr (Or.inr ⟨by rw [← f13]; exact c16, N81⟩)⟩
          · obtain ⟨n55, l55, h⟩ := v_al h (by decide +kernel : pins 174 60 = some (5, 61, 0, 0, [])) (v := t) rfl
            obtain ⟨n56, l56, h⟩ := w_row (k := 15) W h (by decide +kernel : pins 174 61 = some (22, 64, 13, 15, [])) (by decide)
            obtain ⟨n57, l57, h⟩ := v_il h (by decide +kernel : pins 174 64 = some (3, 65, 1, 0, [])) (v := hh) rfl
            obtain ⟨n58, l58, h⟩ := v_al h (by decide +kernel : pins 174 65 = some (5, 66, 0, 0, [])) (v := t) rfl
            obtain ⟨n59, w66, l59, e66, h⟩ := w_fl W h (by decide +kernel : pins 174 66 = some (22, 69, 13, 0, []))
            obtain ⟨n60, s69, l60, b69, S69, u69, h⟩ := w_last W h (by decide +kernel : pins 174 69 = some (30, 70, 0, 0, [])) (by decide)
            obtain ⟨n61, l61, h⟩ := v_al h (by decide +kernel : pins 174 70 = some (5, 71, 0, 0, [])) (v := t) rfl
            obtain ⟨n62, l62, h⟩ := v_il h (by decide +kernel : pins 174 71 = some (3, 72, 1, 0, [])) (v := hh) rfl
            obtain ⟨n63, w72, l63, ⟨e72, i72⟩, h⟩ := u_ic h (by decide +kernel : pins 174 72 = some (0, 73, 2, 0, [])) (by decide)
            obtain ⟨n64, r73, s73, l64, h73, h⟩ := pinv_call h (by decide +kernel : pins 174 73 = some (36, 76, 149, 0, [3]))
            have h73 : prun n64 149 0 (lv_args 0 [.ref t, .int hh, .int w72]) [] s69 = some (r73, s73) := h73
            have HA2 : 0 ≤ (gI (vw t A s69) 46 0).toInt ∧ (gI (vw t A s69) 46 0).toInt < 800 := by rw [u69, gI_ne (by decide)]; exact HA
            have HM2 : 0 ≤ (gI (vw t A s69) 47 0).toInt ∧ (gI (vw t A s69) 47 0).toInt ≤ 1000 := by rw [u69, gI_ne (by decide)]; exact HM
            obtain ⟨er73, S73, f73, N73⟩ := pc_sendAddress S69.1 h73 HA2 HM2 (by right; rw [e72]; decide)
            have er73 : r73 = none := er73
            subst er73
            try dsimp only at S73
            try dsimp only at f73
            try dsimp only at N73
            have h : prun n64 174 76 [(0, .ref t), (1, .int hh), (2, .int a), (3, .int fr)] [] s73 = some x := h
            obtain ⟨n65, l65, h⟩ := u_go h (by decide +kernel : pins 174 76 = some (20, 79, 0, ((84 : Nat) : Int), []))
            have ex := u_ret37 h (by decide +kernel : pins 174 84 = some (37, 85, 0, 0, []))
            subst ex
            obtain ⟨p, n1, _, n2⟩ := N73
            have := n2 (by rw [i72])
            subst this
            refine ⟨rfl, (S69.tr S73), Or.inr (Or.inl ⟨?_, ?_⟩)⟩
            · exact Or.inr (by rw [← e43, ← e51, ← e52]; omega)
            · rw [e66] at u69
              exact ⟨_, u69, f73, n1⟩
    · have ex := u_ret37 h (by decide +kernel : pins 174 19 = some (37, 20, 0, 0, []))
      subst ex
      exact ⟨rfl, SP.rf W, Or.inl rfl⟩
theorem pc_nprobe {t n : Nat} {A : Nat → Nat} {hh a : Int32} {σ : ps} {x : Option Value × ps} (W : Wld t A σ) (h : prun n 175 0 (lv_args 0 [.ref t, .int hh, .int a]) [] σ = some x) (HA : 0 ≤ (gI (vw t A σ) 46 0).toInt ∧ (gI (vw t A σ) 46 0).toInt < 800) (HM : 0 ≤ (gI (vw t A σ) 47 0).toInt ∧ (gI (vw t A σ) 47 0).toInt ≤ 1000) : x.1 = none ∧ SP t A σ x.2 ∧ (vw t A x.2 = vw t A σ ∨ (FrS (vw t A σ) (vw t A x.2) ∧ Snd (vw t A σ) (vw t A x.2) 1) ∨ vw t A x.2 = up (up (vw t A σ) 17 hh.toNatClampNeg (.int 0)) 18 hh.toNatClampNeg (.long (gL (vw t A σ) 0 0 + 1000))) := by
  have h : prun n 175 0 [(0, .ref t), (1, .int hh), (2, .int a)] [] σ = some x := h
  obtain ⟨n1, l1, h⟩ := v_al h (by decide +kernel : pins 175 0 = some (5, 1, 0, 0, [])) (v := t) rfl
  obtain ⟨n2, l2, h⟩ := w_row (k := 16) W h (by decide +kernel : pins 175 1 = some (22, 4, 13, 16, [])) (by decide)
  obtain ⟨n3, l3, h⟩ := v_il h (by decide +kernel : pins 175 4 = some (3, 5, 1, 0, [])) (v := hh) rfl
  obtain ⟨n4, w5, l4, b5, e5, h⟩ := w_iald W h (by decide +kernel : pins 175 5 = some (24, 6, 0, 0, [])) (by decide)
  obtain ⟨n5, w6, l5, ⟨e6, i6⟩, h⟩ := u_ic h (by decide +kernel : pins 175 6 = some (0, 7, 2, 0, [])) (by decide)
  obtain ⟨n6, l6, ⟨c7, h⟩ | ⟨c7, h⟩⟩ := u_ic2 h (by decide +kernel : pins 175 7 = some (17, 10, 2, ((29 : Nat) : Int), []))
  · have ex := u_ret37 h (by decide +kernel : pins 175 29 = some (37, 30, 0, 0, []))
    subst ex
    exact ⟨rfl, SP.rf W, Or.inl rfl⟩
  · obtain ⟨n8, l8, h⟩ := v_al h (by decide +kernel : pins 175 10 = some (5, 11, 0, 0, [])) (v := t) rfl
    obtain ⟨n9, l9, h⟩ := w_row (k := 62) W h (by decide +kernel : pins 175 11 = some (22, 14, 13, 62, [])) (by decide)
    obtain ⟨n10, w14, l10, ⟨e14, i14⟩, h⟩ := u_ic h (by decide +kernel : pins 175 14 = some (0, 15, 0, 0, [])) (by decide)
    obtain ⟨n11, l11, h⟩ := v_al h (by decide +kernel : pins 175 15 = some (5, 16, 0, 0, [])) (v := t) rfl
    obtain ⟨n12, l12, h⟩ := w_row (k := 21) W h (by decide +kernel : pins 175 16 = some (22, 19, 13, 21, [])) (by decide)
    obtain ⟨n13, w19, l13, ⟨e19, i19⟩, h⟩ := u_ic h (by decide +kernel : pins 175 19 = some (0, 21, 16, 0, [])) (by decide)
    obtain ⟨n14, l14, h⟩ := v_il h (by decide +kernel : pins 175 21 = some (3, 22, 1, 0, [])) (v := hh) rfl
    obtain ⟨n15, w22, l15, e22, h⟩ := u_mul h (by decide +kernel : pins 175 22 = some (10, 23, 2, 0, []))
    obtain ⟨n16, r23, s23, l16, h23, h⟩ := pinv_call h (by decide +kernel : pins 175 23 = some (36, 26, 140, 1, [4]))
    have h23 : prun n16 140 0 (lv_args 0 [.ref (A 62), .int w14, .ref (A 21), .int w22]) [] σ = some (r23, s23) := h23
    obtain ⟨es23, w23, er23, f23⟩ := pc_alike0 W h23 (by decide) (by decide)
    have er23 : r23 = some (.int w23) := er23
    have et23 : s23 = σ := es23
    rw [et23] at h
    subst er23
    have h : prun n16 175 26 [(0, .ref t), (1, .int hh), (2, .int a)] [.int w23] σ = some x := h
    obtain ⟨n17, l17, ⟨c26, h⟩ | ⟨c26, h⟩⟩ := u_if1 h (by decide +kernel : pins 175 26 = some (16, 29, 1, ((30 : Nat) : Int), []))
    · obtain ⟨n18, l18, h⟩ := v_al h (by decide +kernel : pins 175 30 = some (5, 31, 0, 0, [])) (v := t) rfl
      obtain ⟨n19, l19, h⟩ := w_row (k := 16) W h (by decide +kernel : pins 175 31 = some (22, 34, 13, 16, [])) (by decide)
      obtain ⟨n20, l20, h⟩ := v_il h (by decide +kernel : pins 175 34 = some (3, 35, 1, 0, [])) (v := hh) rfl
      obtain ⟨n21, w35, l21, b35, e35, h⟩ := w_iald W h (by decide +kernel : pins 175 35 = some (24, 36, 0, 0, [])) (by decide)
      obtain ⟨n22, w36, l22, ⟨e36, i36⟩, h⟩ := u_ic h (by decide +kernel : pins 175 36 = some (0, 37, 3, 0, [])) (by decide)
      obtain ⟨n23, l23, ⟨c37, h⟩ | ⟨c37, h⟩⟩ := u_ic1 h (by decide +kernel : pins 175 37 = some (17, 40, 1, ((52 : Nat) : Int), []))
      · obtain ⟨n24, l24, h⟩ := v_al h (by decide +kernel : pins 175 52 = some (5, 53, 0, 0, [])) (v := t) rfl
        obtain ⟨n25, l25, h⟩ := v_il h (by decide +kernel : pins 175 53 = some (3, 54, 1, 0, [])) (v := hh) rfl
        obtain ⟨n26, r54, s54, l26, h54, h⟩ := pinv_call h (by decide +kernel : pins 175 54 = some (36, 57, 148, 0, [2]))
        have h54 : prun n26 148 0 (lv_args 0 [.ref t, .int hh]) [] σ = some (r54, s54) := h54
        obtain ⟨es54, w54, er54, f54⟩ := pc_address W h54
        have er54 : r54 = some (.int w54) := er54
        have et54 : s54 = σ := es54
        rw [et54] at h
        subst er54
        have h : prun n26 175 57 [(0, .ref t), (1, .int hh), (2, .int a)] [.int w54] σ = some x := h
        obtain ⟨n27, l27, h⟩ := v_il h (by decide +kernel : pins 175 57 = some (3, 58, 2, 0, [])) (v := a) rfl
        obtain ⟨n28, l28, ⟨c58, h⟩ | ⟨c58, h⟩⟩ := u_ic3 h (by decide +kernel : pins 175 58 = some (17, 61, 3, ((82 : Nat) : Int), []))
        · have ex := u_ret37 h (by decide +kernel : pins 175 82 = some (37, 83, 0, 0, []))
          subst ex
          exact ⟨rfl, SP.rf W, Or.inl rfl⟩
        · obtain ⟨n30, l30, h⟩ := v_al h (by decide +kernel : pins 175 61 = some (5, 62, 0, 0, [])) (v := t) rfl
          obtain ⟨n31, l31, h⟩ := w_row (k := 17) W h (by decide +kernel : pins 175 62 = some (22, 65, 13, 17, [])) (by decide)
          obtain ⟨n32, l32, h⟩ := v_il h (by decide +kernel : pins 175 65 = some (3, 66, 1, 0, [])) (v := hh) rfl
          obtain ⟨n33, w66, l33, ⟨e66, i66⟩, h⟩ := u_ic h (by decide +kernel : pins 175 66 = some (0, 67, 0, 0, [])) (by decide)
          obtain ⟨n34, s67, l34, b67, S67, u67, h⟩ := w_iast W h (by decide +kernel : pins 175 67 = some (28, 68, 0, 0, [])) (by decide)
          obtain ⟨n35, l35, h⟩ := v_al h (by decide +kernel : pins 175 68 = some (5, 69, 0, 0, [])) (v := t) rfl
          obtain ⟨n36, l36, h⟩ := w_row (k := 18) S67.1 h (by decide +kernel : pins 175 69 = some (22, 72, 13, 18, [])) (by decide)
          obtain ⟨n37, l37, h⟩ := v_il h (by decide +kernel : pins 175 72 = some (3, 73, 1, 0, [])) (v := hh) rfl
          obtain ⟨n38, l38, h⟩ := v_al h (by decide +kernel : pins 175 73 = some (5, 74, 0, 0, [])) (v := t) rfl
          obtain ⟨n39, w74, l39, e74, h⟩ := w_fl S67.1 h (by decide +kernel : pins 175 74 = some (22, 77, 13, 0, []))
          obtain ⟨n40, w77, l40, e77, h⟩ := u_lc h (by decide +kernel : pins 175 77 = some (1, 80, 1000, 0, []))
          have i77 : w77.toInt = 1000 := by rw [e77]; decide
          obtain ⟨n41, w80, l41, e80, h⟩ := u_ladd h (by decide +kernel : pins 175 80 = some (11, 81, 0, 0, []))
          obtain ⟨n42, s81, l42, b81, S81, u81, h⟩ := w_last S67.1 h (by decide +kernel : pins 175 81 = some (30, 82, 0, 0, [])) (by decide)
          have ex := u_ret37 h (by decide +kernel : pins 175 82 = some (37, 83, 0, 0, []))
          subst ex
          refine ⟨rfl, (S67.tr S81), Or.inr (Or.inr ?_)⟩
          show vw t A s81 = _
          rw [u81, u67, e80, e74, u67, gL_ne (by decide), e77, e66]
          rfl
      · obtain ⟨n44, l44, h⟩ := v_al h (by decide +kernel : pins 175 40 = some (5, 41, 0, 0, [])) (v := t) rfl
        obtain ⟨n45, l45, h⟩ := v_il h (by decide +kernel : pins 175 41 = some (3, 42, 1, 0, [])) (v := hh) rfl
        obtain ⟨n46, w42, l46, ⟨e42, i42⟩, h⟩ := u_ic h (by decide +kernel : pins 175 42 = some (0, 45, 120000, 0, [])) (by decide)
        obtain ⟨n47, w45, l47, ⟨e45, i45⟩, h⟩ := u_ic h (by decide +kernel : pins 175 45 = some (0, 46, 0, 0, [])) (by decide)
        obtain ⟨n48, r46, s46, l48, h46, h⟩ := pinv_call h (by decide +kernel : pins 175 46 = some (36, 49, 152, 0, [4]))
        have h46 : prun n48 152 0 (lv_args 0 [.ref t, .int hh, .int w42, .int w45]) [] σ = some (r46, s46) := h46
        obtain ⟨er46, S46, f46, N46⟩ := pc_tells W h46 HA HM
        have er46 : r46 = none := er46
        subst er46
        try dsimp only at S46
        try dsimp only at f46
        try dsimp only at N46
        have h : prun n48 175 49 [(0, .ref t), (1, .int hh), (2, .int a)] [] s46 = some x := h
        obtain ⟨n49, l49, h⟩ := u_go h (by decide +kernel : pins 175 49 = some (20, 52, 0, ((82 : Nat) : Int), []))
        have ex := u_ret37 h (by decide +kernel : pins 175 82 = some (37, 83, 0, 0, []))
        subst ex
        obtain ⟨p, n1, _, n2⟩ := N46
        have := n2 i45 (by rw [e42]; decide)
        subst this
        exact ⟨rfl, S46, Or.inr (Or.inl ⟨f46, n1⟩)⟩
    · have ex := u_ret37 h (by decide +kernel : pins 175 29 = some (37, 30, 0, 0, []))
      subst ex
      exact ⟨rfl, SP.rf W, Or.inl rfl⟩
theorem pc_dies {t n : Nat} {A : Nat → Nat} {kk : Int32} {σ : ps} {x : Option Value × ps} (W : Wld t A σ) (h : prun n 177 0 (lv_args 0 [.ref t, .int kk]) [] σ = some x) : x.1 = none ∧ SP t A σ x.2 ∧ (vw t A x.2 = up (vw t A σ) 38 kk.toNatClampNeg (.int 1) ∨ ((gL (vw t A σ) 0 0 + Int64.ofInt 1000).toInt < (gL (vw t A σ) 37 kk.toNatClampNeg).toInt ∧ vw t A x.2 = up (up (vw t A σ) 38 kk.toNatClampNeg (.int 1)) 37 kk.toNatClampNeg (.long (gL (vw t A σ) 0 0 + Int64.ofInt 1000)))) := by
  have h : prun n 177 0 [(0, .ref t), (1, .int kk)] [] σ = some x := h
  obtain ⟨n1, l1, h⟩ := v_al h (by decide +kernel : pins 177 0 = some (5, 1, 0, 0, [])) (v := t) rfl
  obtain ⟨n2, l2, h⟩ := w_row (k := 38) W h (by decide +kernel : pins 177 1 = some (22, 4, 13, 38, [])) (by decide)
  obtain ⟨n3, l3, h⟩ := v_il h (by decide +kernel : pins 177 4 = some (3, 5, 1, 0, [])) (v := kk) rfl
  obtain ⟨n4, w5, l4, ⟨e5, i5⟩, h⟩ := u_ic h (by decide +kernel : pins 177 5 = some (0, 6, 1, 0, [])) (by decide)
  obtain ⟨n5, s6, l5, b6, S6, u6, h⟩ := w_bast W h (by decide +kernel : pins 177 6 = some (29, 7, 0, 0, [])) (by decide) (by decide)
  obtain ⟨n6, l6, h⟩ := v_al h (by decide +kernel : pins 177 7 = some (5, 8, 0, 0, [])) (v := t) rfl
  obtain ⟨n7, l7, h⟩ := w_row (k := 37) S6.1 h (by decide +kernel : pins 177 8 = some (22, 11, 13, 37, [])) (by decide)
  obtain ⟨n8, l8, h⟩ := v_il h (by decide +kernel : pins 177 11 = some (3, 12, 1, 0, [])) (v := kk) rfl
  obtain ⟨n9, w12, l9, b12, e12, h⟩ := w_lald S6.1 h (by decide +kernel : pins 177 12 = some (26, 13, 0, 0, [])) (by decide)
  obtain ⟨n10, l10, h⟩ := v_al h (by decide +kernel : pins 177 13 = some (5, 14, 0, 0, [])) (v := t) rfl
  obtain ⟨n11, w14, l11, e14, h⟩ := w_fl S6.1 h (by decide +kernel : pins 177 14 = some (22, 17, 13, 0, []))
  obtain ⟨n12, w17, l12, e17, h⟩ := u_lc h (by decide +kernel : pins 177 17 = some (1, 20, 1000, 0, []))
  have i17 : w17.toInt = 1000 := by rw [e17]; decide
  obtain ⟨n13, w20, l13, e20, h⟩ := u_ladd h (by decide +kernel : pins 177 20 = some (11, 21, 0, 0, []))
  obtain ⟨n14, w21, l14, e21, h⟩ := u_lcmp h (by decide +kernel : pins 177 21 = some (12, 22, 0, 0, []))
  obtain ⟨n15, l15, ⟨c22, h⟩ | ⟨c22, h⟩⟩ := u_if5 h (by decide +kernel : pins 177 22 = some (16, 25, 5, ((39 : Nat) : Int), []))
  · have ex := u_ret37 h (by decide +kernel : pins 177 39 = some (37, 40, 0, 0, []))
    subst ex
    refine ⟨rfl, S6, ?_⟩
    refine Or.inl ?_
    show vw t A s6 = _
    rw [u6, e5]
    rfl
  · obtain ⟨n17, l17, h⟩ := v_al h (by decide +kernel : pins 177 25 = some (5, 26, 0, 0, [])) (v := t) rfl
    obtain ⟨n18, l18, h⟩ := w_row (k := 37) S6.1 h (by decide +kernel : pins 177 26 = some (22, 29, 13, 37, [])) (by decide)
    obtain ⟨n19, l19, h⟩ := v_il h (by decide +kernel : pins 177 29 = some (3, 30, 1, 0, [])) (v := kk) rfl
    obtain ⟨n20, l20, h⟩ := v_al h (by decide +kernel : pins 177 30 = some (5, 31, 0, 0, [])) (v := t) rfl
    obtain ⟨n21, w31, l21, e31, h⟩ := w_fl S6.1 h (by decide +kernel : pins 177 31 = some (22, 34, 13, 0, []))
    obtain ⟨n22, w34, l22, e34, h⟩ := u_lc h (by decide +kernel : pins 177 34 = some (1, 37, 1000, 0, []))
    have i34 : w34.toInt = 1000 := by rw [e34]; decide
    obtain ⟨n23, w37, l23, e37, h⟩ := u_ladd h (by decide +kernel : pins 177 37 = some (11, 38, 0, 0, []))
    obtain ⟨n24, s38, l24, b38, S38, u38, h⟩ := w_last S6.1 h (by decide +kernel : pins 177 38 = some (30, 39, 0, 0, [])) (by decide)
    have ex := u_ret37 h (by decide +kernel : pins 177 39 = some (37, 40, 0, 0, []))
    subst ex
    refine ⟨rfl, (S6.tr S38), Or.inr ⟨?_, ?_⟩⟩
    · have q := e21
      rw [e20, e14, u6, gL_ne (by decide), e12, u6, gL_ne (by decide), e17] at q
      exact (show _ from by omega)
    · show vw t A s38 = _
      rw [u38, u6, e37, e31, u6, gL_ne (by decide), e34, e5]
      rfl
