def Ad1 (V V' : Nat → Nat → Value) (h : Nat) : Prop := (∃ V1, FrS V V1 ∧ Snd V V1 8 ∧ (∀ j q : Nat, ¬ ((j = 12 ∨ j = 14) ∧ q = h) → V' j q = V1 j q) ∧ gL V' 14 h = gL V 0 0 + Int64.ofInt 200) ∨
  ∃ V1 V2, (∀ j q : Nat, ¬ ((j = 12 ∨ j = 13 ∨ j = 14) ∧ q = h) → V1 j q = V j q) ∧ (gL V1 14 h = gL V 0 0 + Int64.ofInt 2000 ∨ gL V1 14 h = Int64.ofInt 9223372036854775807) ∧ FrS V1 V2 ∧ Snd V1 V2 1 ∧ (V' = V2 ∨ ((gI V2 16 h).toInt = 1 ∧ (∀ j q : Nat, ¬ ((j = 16 ∨ j = 17 ∨ j = 18) ∧ q = h) → V' j q = V2 j q) ∧ (gI V' 16 h).toInt = 2 ∧ (gI V' 17 h).toInt = 0))
theorem pc_address1 {t n : Nat} {A : Nat → Nat} {hh : Int32} {σ : ps} {x : Option Value × ps} (W : Wld t A σ) (h : prun n 158 0 (lv_args 0 [.ref t, .int hh]) [] σ = some x) (HA : 0 ≤ (gI (vw t A σ) 46 0).toInt ∧ (gI (vw t A σ) 46 0).toInt < 800) (HM : 0 ≤ (gI (vw t A σ) 47 0).toInt ∧ (gI (vw t A σ) 47 0).toInt ≤ 1000) : x.1 = none ∧ SP t A σ x.2 ∧ Ad1 (vw t A σ) (vw t A x.2) hh.toNatClampNeg := by
  have h : prun n 158 0 [(0, .ref t), (1, .int hh)] [] σ = some x := h
  obtain ⟨n1, l1, h⟩ := v_al h (by decide +kernel : pins 158 0 = some (5, 1, 0, 0, [])) (v := t) rfl
  obtain ⟨n2, l2, h⟩ := w_row (k := 12) W h (by decide +kernel : pins 158 1 = some (22, 4, 13, 12, [])) (by decide)
  obtain ⟨n3, l3, h⟩ := v_il h (by decide +kernel : pins 158 4 = some (3, 5, 1, 0, [])) (v := hh) rfl
  obtain ⟨n4, w5, l4, b5, e5, h⟩ := w_iald W h (by decide +kernel : pins 158 5 = some (24, 6, 0, 0, [])) (by decide)
  obtain ⟨n5, w6, l5, ⟨e6, i6⟩, h⟩ := u_ic h (by decide +kernel : pins 158 6 = some (0, 7, 3, 0, [])) (by decide)
  obtain ⟨n6, l6, ⟨c7, h⟩ | ⟨c7, h⟩⟩ := u_ic3 h (by decide +kernel : pins 158 7 = some (17, 10, 3, ((41 : Nat) : Int), []))
  · obtain ⟨n7, l7, h⟩ := v_al h (by decide +kernel : pins 158 41 = some (5, 42, 0, 0, [])) (v := t) rfl
    obtain ⟨n8, l8, h⟩ := w_row (k := 12) W h (by decide +kernel : pins 158 42 = some (22, 45, 13, 12, [])) (by decide)
    obtain ⟨n9, l9, h⟩ := v_il h (by decide +kernel : pins 158 45 = some (3, 46, 1, 0, [])) (v := hh) rfl
    obtain ⟨n10, w46, l10, b46, e46, h⟩ := w_iald W h (by decide +kernel : pins 158 46 = some (24, 47, 0, 0, [])) (by decide)
    obtain ⟨n11, w47, l11, ⟨e47, i47⟩, h⟩ := u_ic h (by decide +kernel : pins 158 47 = some (0, 48, 3, 0, [])) (by decide)
    obtain ⟨n12, l12, ⟨c48, h⟩ | ⟨c48, h⟩⟩ := u_ic1 h (by decide +kernel : pins 158 48 = some (17, 51, 1, ((55 : Nat) : Int), []))
    · obtain ⟨n13, w55, l13, ⟨e55, i55⟩, h⟩ := u_ic h (by decide +kernel : pins 158 55 = some (0, 56, 0, 0, [])) (by decide)
      obtain ⟨n14, l14, h⟩ := v_is h (by decide +kernel : pins 158 56 = some (6, 57, 2, 0, []))
      have h : prun n14 158 57 [(2, .int w55), (0, .ref t), (1, .int hh)] [] σ = some x := h
      obtain ⟨n15, l15, h⟩ := v_al h (by decide +kernel : pins 158 57 = some (5, 58, 0, 0, [])) (v := t) rfl
      obtain ⟨n16, l16, h⟩ := w_row (k := 13) W h (by decide +kernel : pins 158 58 = some (22, 61, 13, 13, [])) (by decide)
      obtain ⟨n17, l17, h⟩ := v_il h (by decide +kernel : pins 158 61 = some (3, 62, 1, 0, [])) (v := hh) rfl
      obtain ⟨n18, w62, l18, ⟨e62, i62⟩, h⟩ := u_ic h (by decide +kernel : pins 158 62 = some (0, 63, 1, 0, [])) (by decide)
      obtain ⟨n19, s63, l19, b63, S63, u63, h⟩ := w_bast W h (by decide +kernel : pins 158 63 = some (29, 64, 0, 0, [])) (by decide) (by decide)
      obtain ⟨n20, l20, h⟩ := v_al h (by decide +kernel : pins 158 64 = some (5, 65, 0, 0, [])) (v := t) rfl
      obtain ⟨n21, l21, h⟩ := w_row (k := 12) S63.1 h (by decide +kernel : pins 158 65 = some (22, 68, 13, 12, [])) (by decide)
      obtain ⟨n22, l22, h⟩ := v_il h (by decide +kernel : pins 158 68 = some (3, 69, 1, 0, [])) (v := hh) rfl
      obtain ⟨n23, w69, l23, ⟨e69, i69⟩, h⟩ := u_ic h (by decide +kernel : pins 158 69 = some (0, 70, 4, 0, [])) (by decide)
      obtain ⟨n24, s70, l24, b70, S70, u70, h⟩ := w_iast S63.1 h (by decide +kernel : pins 158 70 = some (28, 71, 0, 0, [])) (by decide)
      obtain ⟨n25, l25, h⟩ := v_al h (by decide +kernel : pins 158 71 = some (5, 72, 0, 0, [])) (v := t) rfl
      obtain ⟨n26, l26, h⟩ := w_row (k := 14) S70.1 h (by decide +kernel : pins 158 72 = some (22, 75, 13, 14, [])) (by decide)
      obtain ⟨n27, l27, h⟩ := v_il h (by decide +kernel : pins 158 75 = some (3, 76, 1, 0, [])) (v := hh) rfl
      obtain ⟨n28, l28, h⟩ := v_il h (by decide +kernel : pins 158 76 = some (3, 77, 2, 0, [])) (v := w55) rfl
      obtain ⟨n29, l29, ⟨c77, h⟩ | ⟨c77, h⟩⟩ := u_if0 h (by decide +kernel : pins 158 77 = some (16, 80, 0, ((91 : Nat) : Int), []))
      · obtain ⟨n30, w91, l30, e91, h⟩ := u_lc h (by decide +kernel : pins 158 91 = some (1, 94, 9223372036854775807, 0, []))
        have i91 : w91.toInt = 9223372036854775807 := by rw [e91]; decide
        obtain ⟨n31, s94, l31, b94, S94, u94, h⟩ := w_last S70.1 h (by decide +kernel : pins 158 94 = some (30, 95, 0, 0, [])) (by decide)
        obtain ⟨n32, l32, h⟩ := v_al h (by decide +kernel : pins 158 95 = some (5, 96, 0, 0, [])) (v := t) rfl
        obtain ⟨n33, l33, h⟩ := v_il h (by decide +kernel : pins 158 96 = some (3, 97, 1, 0, [])) (v := hh) rfl
        obtain ⟨n34, w97, l34, ⟨e97, i97⟩, h⟩ := u_ic h (by decide +kernel : pins 158 97 = some (0, 98, 2, 0, [])) (by decide)
        obtain ⟨n35, r98, s98, l35, h98, h⟩ := pinv_call h (by decide +kernel : pins 158 98 = some (36, 101, 149, 0, [3]))
        have h98 : prun n35 149 0 (lv_args 0 [.ref t, .int hh, .int w97]) [] s94 = some (r98, s98) := h98
        have HA2 : 0 ≤ (gI (vw t A s94) 46 0).toInt ∧ (gI (vw t A s94) 46 0).toInt < 800 := by rw [show gI (vw t A s94) 46 0 = gI (vw t A σ) 46 0 by rw [u94, gI_ne (by decide), u70, gI_ne (by decide), u63, gI_ne (by decide)]]; exact HA
        have HM2 : 0 ≤ (gI (vw t A s94) 47 0).toInt ∧ (gI (vw t A s94) 47 0).toInt ≤ 1000 := by rw [show gI (vw t A s94) 47 0 = gI (vw t A σ) 47 0 by rw [u94, gI_ne (by decide), u70, gI_ne (by decide), u63, gI_ne (by decide)]]; exact HM
        obtain ⟨er98, S98, F98, N98⟩ := pc_sendAddress S94.1 h98 HA2 HM2 (by right; rw [e97]; decide)
        have er98 : r98 = none := er98
        subst er98
        try dsimp only at S98
        try dsimp only at F98
        try dsimp only at N98
        have h : prun n35 158 101 [(2, .int w55), (0, .ref t), (1, .int hh)] [] s98 = some x := h
        obtain ⟨n36, l36, h⟩ := v_il h (by decide +kernel : pins 158 101 = some (3, 102, 2, 0, [])) (v := w55) rfl
        obtain ⟨n37, l37, ⟨c102, h⟩ | ⟨c102, h⟩⟩ := u_if0 h (by decide +kernel : pins 158 102 = some (16, 105, 0, ((120 : Nat) : Int), []))
        · have ex := u_ret37 h (by decide +kernel : pins 158 120 = some (37, 121, 0, 0, []))
          subst ex
          have z : ∀ (V : Nat → Nat → Value) (r j q : Nat) (v : Value), isRw r = true → (¬ (j = r ∧ q = hh.toNatClampNeg)) → up V r hh.toNatClampNeg v j q = V j q := fun V r j q v hr h => by
            by_cases e : j = r
            · subst e; exact up_ni hr (fun e => h ⟨rfl, e⟩)
            · exact up_ne e
          obtain ⟨p, n1, _, n2⟩ := N98
          have := n2 (by rw [i97])
          subst this
          refine ⟨rfl, (((S63.tr S70).tr S94).tr S98), Or.inr ⟨vw t A s94, vw t A s98, fun j q hj => ?_, Or.inr (by rw [u94, gL_eq, e91]), F98, n1, Or.inl rfl⟩⟩
          rw [u94, z _ _ _ _ _ (by decide) (fun e => hj ⟨by omega, e.2⟩), u70, z _ _ _ _ _ (by decide) (fun e => hj ⟨by omega, e.2⟩), u63, z _ _ _ _ _ (by decide) (fun e => hj ⟨by omega, e.2⟩)]
        · exfalso; omega
      · exfalso; omega
    · obtain ⟨n39, w51, l39, ⟨e51, i51⟩, h⟩ := u_ic h (by decide +kernel : pins 158 51 = some (0, 52, 1, 0, [])) (by decide)
      obtain ⟨n40, l40, h⟩ := u_go h (by decide +kernel : pins 158 52 = some (20, 55, 0, ((56 : Nat) : Int), []))
      obtain ⟨n41, l41, h⟩ := v_is h (by decide +kernel : pins 158 56 = some (6, 57, 2, 0, []))
      have h : prun n41 158 57 [(2, .int w51), (0, .ref t), (1, .int hh)] [] σ = some x := h
      obtain ⟨n42, l42, h⟩ := v_al h (by decide +kernel : pins 158 57 = some (5, 58, 0, 0, [])) (v := t) rfl
      obtain ⟨n43, l43, h⟩ := w_row (k := 13) W h (by decide +kernel : pins 158 58 = some (22, 61, 13, 13, [])) (by decide)
      obtain ⟨n44, l44, h⟩ := v_il h (by decide +kernel : pins 158 61 = some (3, 62, 1, 0, [])) (v := hh) rfl
      obtain ⟨n45, w62, l45, ⟨e62, i62⟩, h⟩ := u_ic h (by decide +kernel : pins 158 62 = some (0, 63, 1, 0, [])) (by decide)
      obtain ⟨n46, s63, l46, b63, S63, u63, h⟩ := w_bast W h (by decide +kernel : pins 158 63 = some (29, 64, 0, 0, [])) (by decide) (by decide)
      obtain ⟨n47, l47, h⟩ := v_al h (by decide +kernel : pins 158 64 = some (5, 65, 0, 0, [])) (v := t) rfl
      obtain ⟨n48, l48, h⟩ := w_row (k := 12) S63.1 h (by decide +kernel : pins 158 65 = some (22, 68, 13, 12, [])) (by decide)
      obtain ⟨n49, l49, h⟩ := v_il h (by decide +kernel : pins 158 68 = some (3, 69, 1, 0, [])) (v := hh) rfl
      obtain ⟨n50, w69, l50, ⟨e69, i69⟩, h⟩ := u_ic h (by decide +kernel : pins 158 69 = some (0, 70, 4, 0, [])) (by decide)
      obtain ⟨n51, s70, l51, b70, S70, u70, h⟩ := w_iast S63.1 h (by decide +kernel : pins 158 70 = some (28, 71, 0, 0, [])) (by decide)
      obtain ⟨n52, l52, h⟩ := v_al h (by decide +kernel : pins 158 71 = some (5, 72, 0, 0, [])) (v := t) rfl
      obtain ⟨n53, l53, h⟩ := w_row (k := 14) S70.1 h (by decide +kernel : pins 158 72 = some (22, 75, 13, 14, [])) (by decide)
      obtain ⟨n54, l54, h⟩ := v_il h (by decide +kernel : pins 158 75 = some (3, 76, 1, 0, [])) (v := hh) rfl
      obtain ⟨n55, l55, h⟩ := v_il h (by decide +kernel : pins 158 76 = some (3, 77, 2, 0, [])) (v := w51) rfl
      obtain ⟨n56, l56, ⟨c77, h⟩ | ⟨c77, h⟩⟩ := u_if0 h (by decide +kernel : pins 158 77 = some (16, 80, 0, ((91 : Nat) : Int), []))
      · exfalso; omega
      · obtain ⟨n57, l57, h⟩ := v_al h (by decide +kernel : pins 158 80 = some (5, 81, 0, 0, [])) (v := t) rfl
        obtain ⟨n58, w81, l58, e81, h⟩ := w_fl S70.1 h (by decide +kernel : pins 158 81 = some (22, 84, 13, 0, []))
        obtain ⟨n59, w84, l59, e84, h⟩ := u_lc h (by decide +kernel : pins 158 84 = some (1, 87, 2000, 0, []))
        have i84 : w84.toInt = 2000 := by rw [e84]; decide
        obtain ⟨n60, w87, l60, e87, h⟩ := u_ladd h (by decide +kernel : pins 158 87 = some (11, 88, 0, 0, []))
        obtain ⟨n61, l61, h⟩ := u_go h (by decide +kernel : pins 158 88 = some (20, 91, 0, ((94 : Nat) : Int), []))
        obtain ⟨n62, s94, l62, b94, S94, u94, h⟩ := w_last S70.1 h (by decide +kernel : pins 158 94 = some (30, 95, 0, 0, [])) (by decide)
        obtain ⟨n63, l63, h⟩ := v_al h (by decide +kernel : pins 158 95 = some (5, 96, 0, 0, [])) (v := t) rfl
        obtain ⟨n64, l64, h⟩ := v_il h (by decide +kernel : pins 158 96 = some (3, 97, 1, 0, [])) (v := hh) rfl
        obtain ⟨n65, w97, l65, ⟨e97, i97⟩, h⟩ := u_ic h (by decide +kernel : pins 158 97 = some (0, 98, 2, 0, [])) (by decide)
        obtain ⟨n66, r98, s98, l66, h98, h⟩ := pinv_call h (by decide +kernel : pins 158 98 = some (36, 101, 149, 0, [3]))
        have h98 : prun n66 149 0 (lv_args 0 [.ref t, .int hh, .int w97]) [] s94 = some (r98, s98) := h98
        have HA2 : 0 ≤ (gI (vw t A s94) 46 0).toInt ∧ (gI (vw t A s94) 46 0).toInt < 800 := by rw [show gI (vw t A s94) 46 0 = gI (vw t A σ) 46 0 by rw [u94, gI_ne (by decide), u70, gI_ne (by decide), u63, gI_ne (by decide)]]; exact HA
        have HM2 : 0 ≤ (gI (vw t A s94) 47 0).toInt ∧ (gI (vw t A s94) 47 0).toInt ≤ 1000 := by rw [show gI (vw t A s94) 47 0 = gI (vw t A σ) 47 0 by rw [u94, gI_ne (by decide), u70, gI_ne (by decide), u63, gI_ne (by decide)]]; exact HM
        obtain ⟨er98, S98, F98, N98⟩ := pc_sendAddress S94.1 h98 HA2 HM2 (by right; rw [e97]; decide)
        have er98 : r98 = none := er98
        subst er98
        try dsimp only at S98
        try dsimp only at F98
        try dsimp only at N98
        have h : prun n66 158 101 [(2, .int w51), (0, .ref t), (1, .int hh)] [] s98 = some x := h
        obtain ⟨n67, l67, h⟩ := v_il h (by decide +kernel : pins 158 101 = some (3, 102, 2, 0, [])) (v := w51) rfl
        obtain ⟨n68, l68, ⟨c102, h⟩ | ⟨c102, h⟩⟩ := u_if0 h (by decide +kernel : pins 158 102 = some (16, 105, 0, ((120 : Nat) : Int), []))
        · exfalso; omega
        · obtain ⟨n69, l69, h⟩ := v_al h (by decide +kernel : pins 158 105 = some (5, 106, 0, 0, [])) (v := t) rfl
          obtain ⟨n70, l70, h⟩ := w_row (k := 16) S98.1 h (by decide +kernel : pins 158 106 = some (22, 109, 13, 16, [])) (by decide)
          obtain ⟨n71, l71, h⟩ := v_il h (by decide +kernel : pins 158 109 = some (3, 110, 1, 0, [])) (v := hh) rfl
          obtain ⟨n72, w110, l72, b110, e110, h⟩ := w_iald S98.1 h (by decide +kernel : pins 158 110 = some (24, 111, 0, 0, [])) (by decide)
          obtain ⟨n73, w111, l73, ⟨e111, i111⟩, h⟩ := u_ic h (by decide +kernel : pins 158 111 = some (0, 112, 1, 0, [])) (by decide)
          obtain ⟨n74, l74, ⟨c112, h⟩ | ⟨c112, h⟩⟩ := u_ic1 h (by decide +kernel : pins 158 112 = some (17, 115, 1, ((120 : Nat) : Int), []))
          · have ex := u_ret37 h (by decide +kernel : pins 158 120 = some (37, 121, 0, 0, []))
            subst ex
            have z : ∀ (V : Nat → Nat → Value) (r j q : Nat) (v : Value), isRw r = true → (¬ (j = r ∧ q = hh.toNatClampNeg)) → up V r hh.toNatClampNeg v j q = V j q := fun V r j q v hr h => by
              by_cases e : j = r
              · subst e; exact up_ni hr (fun e => h ⟨rfl, e⟩)
              · exact up_ne e
            obtain ⟨p, n1, _, n2⟩ := N98
            have := n2 (by rw [i97])
            subst this
            refine ⟨rfl, (((S63.tr S70).tr S94).tr S98), Or.inr ⟨vw t A s94, vw t A s98, fun j q hj => ?_, Or.inl (by rw [u94, gL_eq, e87, e81, u70, gL_ne (by decide), u63, gL_ne (by decide), e84]), F98, n1, Or.inl rfl⟩⟩
            rw [u94, z _ _ _ _ _ (by decide) (fun e => hj ⟨by omega, e.2⟩), u70, z _ _ _ _ _ (by decide) (fun e => hj ⟨by omega, e.2⟩), u63, z _ _ _ _ _ (by decide) (fun e => hj ⟨by omega, e.2⟩)]
          · obtain ⟨n76, l76, h⟩ := v_al h (by decide +kernel : pins 158 115 = some (5, 116, 0, 0, [])) (v := t) rfl
            obtain ⟨n77, l77, h⟩ := v_il h (by decide +kernel : pins 158 116 = some (3, 117, 1, 0, [])) (v := hh) rfl
            obtain ⟨n78, r117, s117, l78, h117, h⟩ := pinv_call h (by decide +kernel : pins 158 117 = some (36, 120, 156, 0, [2]))
            have h117 : prun n78 156 0 (lv_args 0 [.ref t, .int hh]) [] s98 = some (r117, s117) := h117
            obtain ⟨er117, S117, f117, a117, b117⟩ := pc_probesName S98.1 h117
            have er117 : r117 = none := er117
            subst er117
            try dsimp only at S117
            try dsimp only at f117
            try dsimp only at a117
            try dsimp only at b117
            have h : prun n78 158 120 [(2, .int w51), (0, .ref t), (1, .int hh)] [] s117 = some x := h
            have ex := u_ret37 h (by decide +kernel : pins 158 120 = some (37, 121, 0, 0, []))
            subst ex
            have z : ∀ (V : Nat → Nat → Value) (r j q : Nat) (v : Value), isRw r = true → (¬ (j = r ∧ q = hh.toNatClampNeg)) → up V r hh.toNatClampNeg v j q = V j q := fun V r j q v hr h => by
              by_cases e : j = r
              · subst e; exact up_ni hr (fun e => h ⟨rfl, e⟩)
              · exact up_ne e
            obtain ⟨p, n1, _, n2⟩ := N98
            have := n2 (by rw [i97])
            subst this
            refine ⟨rfl, ((((S63.tr S70).tr S94).tr S98).tr S117), Or.inr ⟨vw t A s94, vw t A s98, fun j q hj => ?_, Or.inl (by rw [u94, gL_eq, e87, e81, u70, gL_ne (by decide), u63, gL_ne (by decide), e84]), F98, n1, Or.inr ⟨by rw [← e110]; omega, f117, a117, b117⟩⟩⟩
            rw [u94, z _ _ _ _ _ (by decide) (fun e => hj ⟨by omega, e.2⟩), u70, z _ _ _ _ _ (by decide) (fun e => hj ⟨by omega, e.2⟩), u63, z _ _ _ _ _ (by decide) (fun e => hj ⟨by omega, e.2⟩)]
  · obtain ⟨n80, l80, h⟩ := v_al h (by decide +kernel : pins 158 10 = some (5, 11, 0, 0, [])) (v := t) rfl
    obtain ⟨n81, l81, h⟩ := v_il h (by decide +kernel : pins 158 11 = some (3, 12, 1, 0, [])) (v := hh) rfl
    obtain ⟨n82, w12, l82, ⟨e12, i12⟩, h⟩ := u_ic h (by decide +kernel : pins 158 12 = some (0, 13, 1, 0, [])) (by decide)
    obtain ⟨n83, r13, s13, l83, h13, h⟩ := pinv_call h (by decide +kernel : pins 158 13 = some (36, 16, 149, 0, [3]))
    have h13 : prun n83 149 0 (lv_args 0 [.ref t, .int hh, .int w12]) [] σ = some (r13, s13) := h13
    obtain ⟨er13, S13, F13, N13⟩ := pc_sendAddress W h13 HA HM (by left; rw [e12]; decide)
    have er13 : r13 = none := er13
    subst er13
    try dsimp only at S13
    try dsimp only at F13
    try dsimp only at N13
    have h : prun n83 158 16 [(0, .ref t), (1, .int hh)] [] s13 = some x := h
    obtain ⟨n84, l84, h⟩ := v_al h (by decide +kernel : pins 158 16 = some (5, 17, 0, 0, [])) (v := t) rfl
    obtain ⟨n85, l85, h⟩ := w_row (k := 12) S13.1 h (by decide +kernel : pins 158 17 = some (22, 20, 13, 12, [])) (by decide)
    obtain ⟨n86, l86, h⟩ := v_il h (by decide +kernel : pins 158 20 = some (3, 21, 1, 0, [])) (v := hh) rfl
    obtain ⟨n87, l87, h⟩ := v_dup2 h (by decide +kernel : pins 158 21 = some (35, 22, 0, 0, []))
    obtain ⟨n88, w22, l88, b22, e22, h⟩ := w_iald S13.1 h (by decide +kernel : pins 158 22 = some (24, 23, 0, 0, [])) (by decide)
    obtain ⟨n89, w23, l89, ⟨e23, i23⟩, h⟩ := u_ic h (by decide +kernel : pins 158 23 = some (0, 24, 1, 0, [])) (by decide)
    obtain ⟨n90, w24, l90, e24, h⟩ := u_add h (by decide +kernel : pins 158 24 = some (10, 25, 0, 0, []))
    obtain ⟨n91, s25, l91, b25, S25, u25, h⟩ := w_iast S13.1 h (by decide +kernel : pins 158 25 = some (28, 26, 0, 0, [])) (by decide)
    obtain ⟨n92, l92, h⟩ := v_al h (by decide +kernel : pins 158 26 = some (5, 27, 0, 0, [])) (v := t) rfl
    obtain ⟨n93, l93, h⟩ := w_row (k := 14) S25.1 h (by decide +kernel : pins 158 27 = some (22, 30, 13, 14, [])) (by decide)
    obtain ⟨n94, l94, h⟩ := v_il h (by decide +kernel : pins 158 30 = some (3, 31, 1, 0, [])) (v := hh) rfl
    obtain ⟨n95, l95, h⟩ := v_al h (by decide +kernel : pins 158 31 = some (5, 32, 0, 0, [])) (v := t) rfl
    obtain ⟨n96, w32, l96, e32, h⟩ := w_fl S25.1 h (by decide +kernel : pins 158 32 = some (22, 35, 13, 0, []))
    obtain ⟨n97, w35, l97, e35, h⟩ := u_lc h (by decide +kernel : pins 158 35 = some (1, 38, 200, 0, []))
    have i35 : w35.toInt = 200 := by rw [e35]; decide
    obtain ⟨n98, w38, l98, e38, h⟩ := u_ladd h (by decide +kernel : pins 158 38 = some (11, 39, 0, 0, []))
    obtain ⟨n99, s39, l99, b39, S39, u39, h⟩ := w_last S25.1 h (by decide +kernel : pins 158 39 = some (30, 40, 0, 0, [])) (by decide)
    have ex := u_ret37 h (by decide +kernel : pins 158 40 = some (37, 41, 0, 0, []))
    subst ex
    have z : ∀ (V : Nat → Nat → Value) (r j q : Nat) (v : Value), isRw r = true → (¬ (j = r ∧ q = hh.toNatClampNeg)) → up V r hh.toNatClampNeg v j q = V j q := fun V r j q v hr h => by
      by_cases e : j = r
      · subst e; exact up_ni hr (fun e => h ⟨rfl, e⟩)
      · exact up_ne e
    obtain ⟨p, n1, n2, _⟩ := N13
    have := n2 (by rw [i12])
    subst this
    refine ⟨rfl, ((S13.tr S25).tr S39), Or.inl ⟨_, F13, n1, fun j q hj => ?_, ?_⟩⟩
    · show vw t A s39 j q = _
      rw [u39, z _ _ _ _ _ (by decide) (fun e => hj ⟨by omega, e.2⟩), u25, z _ _ _ _ _ (by decide) (fun e => hj ⟨by omega, e.2⟩)]
    · show gL (vw t A s39) 14 _ = _
      rw [u39, gL_eq, e38, e32, u25, gL_ne (by decide), e35]
      unfold gL
      rw [F13 0 0 (by decide)]
def Nm1 (V V' : Nat → Nat → Value) (h : Nat) : Prop := ((gI V 17 h).toInt < 3 ∧ ∃ V1, FrS V V1 ∧ Snd V V1 8 ∧ (∀ j q : Nat, ¬ ((j = 17 ∨ j = 18) ∧ q = h) → V' j q = V1 j q) ∧ gL V' 18 h = gL V 0 0 + Int64.ofInt 250) ∨
  (3 ≤ (gI V 17 h).toInt ∧ ∃ V1 p, (∀ j q : Nat, ¬ ((j = 16 ∨ j = 17 ∨ j = 18) ∧ q = h) → V1 j q = V j q) ∧ (gL V1 18 h = gL V 0 0 + Int64.ofInt 1000 ∨ gL V1 18 h = Int64.ofInt 9223372036854775807) ∧ FrS V1 V' ∧ Snd V1 V' p ∧ (p = 1 ∨ p = 2521))
theorem pc_name1 {t n : Nat} {A : Nat → Nat} {hh : Int32} {σ : ps} {x : Option Value × ps} (W : Wld t A σ) (h : prun n 159 0 (lv_args 0 [.ref t, .int hh]) [] σ = some x) (HA : 0 ≤ (gI (vw t A σ) 46 0).toInt ∧ (gI (vw t A σ) 46 0).toInt < 800) (HM : 0 ≤ (gI (vw t A σ) 47 0).toInt ∧ (gI (vw t A σ) 47 0).toInt ≤ 1000) : x.1 = none ∧ SP t A σ x.2 ∧ Nm1 (vw t A σ) (vw t A x.2) hh.toNatClampNeg := by
  have h : prun n 159 0 [(0, .ref t), (1, .int hh)] [] σ = some x := h
  obtain ⟨n1, l1, h⟩ := v_al h (by decide +kernel : pins 159 0 = some (5, 1, 0, 0, [])) (v := t) rfl
  obtain ⟨n2, l2, h⟩ := w_row (k := 17) W h (by decide +kernel : pins 159 1 = some (22, 4, 13, 17, [])) (by decide)
  obtain ⟨n3, l3, h⟩ := v_il h (by decide +kernel : pins 159 4 = some (3, 5, 1, 0, [])) (v := hh) rfl
  obtain ⟨n4, w5, l4, b5, e5, h⟩ := w_iald W h (by decide +kernel : pins 159 5 = some (24, 6, 0, 0, [])) (by decide)
  obtain ⟨n5, w6, l5, ⟨e6, i6⟩, h⟩ := u_ic h (by decide +kernel : pins 159 6 = some (0, 7, 3, 0, [])) (by decide)
  obtain ⟨n6, l6, ⟨c7, h⟩ | ⟨c7, h⟩⟩ := u_ic3 h (by decide +kernel : pins 159 7 = some (17, 10, 3, ((78 : Nat) : Int), []))
  · obtain ⟨n7, l7, h⟩ := v_al h (by decide +kernel : pins 159 78 = some (5, 79, 0, 0, [])) (v := t) rfl
    obtain ⟨n8, l8, h⟩ := w_row (k := 17) W h (by decide +kernel : pins 159 79 = some (22, 82, 13, 17, [])) (by decide)
    obtain ⟨n9, l9, h⟩ := v_il h (by decide +kernel : pins 159 82 = some (3, 83, 1, 0, [])) (v := hh) rfl
    obtain ⟨n10, w83, l10, b83, e83, h⟩ := w_iald W h (by decide +kernel : pins 159 83 = some (24, 84, 0, 0, [])) (by decide)
    obtain ⟨n11, w84, l11, ⟨e84, i84⟩, h⟩ := u_ic h (by decide +kernel : pins 159 84 = some (0, 85, 3, 0, [])) (by decide)
    obtain ⟨n12, l12, ⟨c85, h⟩ | ⟨c85, h⟩⟩ := u_ic1 h (by decide +kernel : pins 159 85 = some (17, 88, 1, ((92 : Nat) : Int), []))
    · obtain ⟨n13, w92, l13, ⟨e92, i92⟩, h⟩ := u_ic h (by decide +kernel : pins 159 92 = some (0, 93, 0, 0, [])) (by decide)
      obtain ⟨n14, l14, h⟩ := v_is h (by decide +kernel : pins 159 93 = some (6, 94, 2, 0, []))
      have h : prun n14 159 94 [(2, .int w92), (0, .ref t), (1, .int hh)] [] σ = some x := h
      obtain ⟨n15, l15, h⟩ := v_al h (by decide +kernel : pins 159 94 = some (5, 95, 0, 0, [])) (v := t) rfl
      obtain ⟨n16, l16, h⟩ := w_row (k := 16) W h (by decide +kernel : pins 159 95 = some (22, 98, 13, 16, [])) (by decide)
      obtain ⟨n17, l17, h⟩ := v_il h (by decide +kernel : pins 159 98 = some (3, 99, 1, 0, [])) (v := hh) rfl
      obtain ⟨n18, w99, l18, ⟨e99, i99⟩, h⟩ := u_ic h (by decide +kernel : pins 159 99 = some (0, 100, 3, 0, [])) (by decide)
      obtain ⟨n19, s100, l19, b100, S100, u100, h⟩ := w_iast W h (by decide +kernel : pins 159 100 = some (28, 101, 0, 0, [])) (by decide)
      obtain ⟨n20, l20, h⟩ := v_al h (by decide +kernel : pins 159 101 = some (5, 102, 0, 0, [])) (v := t) rfl
      obtain ⟨n21, l21, h⟩ := w_row (k := 17) S100.1 h (by decide +kernel : pins 159 102 = some (22, 105, 13, 17, [])) (by decide)
      obtain ⟨n22, l22, h⟩ := v_il h (by decide +kernel : pins 159 105 = some (3, 106, 1, 0, [])) (v := hh) rfl
      obtain ⟨n23, w106, l23, ⟨e106, i106⟩, h⟩ := u_ic h (by decide +kernel : pins 159 106 = some (0, 107, 4, 0, [])) (by decide)
      obtain ⟨n24, s107, l24, b107, S107, u107, h⟩ := w_iast S100.1 h (by decide +kernel : pins 159 107 = some (28, 108, 0, 0, [])) (by decide)
      obtain ⟨n25, l25, h⟩ := v_al h (by decide +kernel : pins 159 108 = some (5, 109, 0, 0, [])) (v := t) rfl
      obtain ⟨n26, l26, h⟩ := w_row (k := 18) S107.1 h (by decide +kernel : pins 159 109 = some (22, 112, 13, 18, [])) (by decide)
      obtain ⟨n27, l27, h⟩ := v_il h (by decide +kernel : pins 159 112 = some (3, 113, 1, 0, [])) (v := hh) rfl
      obtain ⟨n28, l28, h⟩ := v_il h (by decide +kernel : pins 159 113 = some (3, 114, 2, 0, [])) (v := w92) rfl
      obtain ⟨n29, l29, ⟨c114, h⟩ | ⟨c114, h⟩⟩ := u_if0 h (by decide +kernel : pins 159 114 = some (16, 117, 0, ((128 : Nat) : Int), []))
      · obtain ⟨n30, w128, l30, e128, h⟩ := u_lc h (by decide +kernel : pins 159 128 = some (1, 131, 9223372036854775807, 0, []))
        have i128 : w128.toInt = 9223372036854775807 := by rw [e128]; decide
        obtain ⟨n31, s131, l31, b131, S131, u131, h⟩ := w_last S107.1 h (by decide +kernel : pins 159 131 = some (30, 132, 0, 0, [])) (by decide)
        obtain ⟨n32, l32, h⟩ := v_al h (by decide +kernel : pins 159 132 = some (5, 133, 0, 0, [])) (v := t) rfl
        obtain ⟨n33, l33, h⟩ := v_il h (by decide +kernel : pins 159 133 = some (3, 134, 1, 0, [])) (v := hh) rfl
        obtain ⟨n34, w134, l34, ⟨e134, i134⟩, h⟩ := u_ic h (by decide +kernel : pins 159 134 = some (0, 137, 120000, 0, [])) (by decide)
        obtain ⟨n35, w137, l35, ⟨e137, i137⟩, h⟩ := u_ic h (by decide +kernel : pins 159 137 = some (0, 138, 1, 0, [])) (by decide)
        obtain ⟨n36, r138, s138, l36, h138, h⟩ := pinv_call h (by decide +kernel : pins 159 138 = some (36, 141, 152, 0, [4]))
        have h138 : prun n36 152 0 (lv_args 0 [.ref t, .int hh, .int w134, .int w137]) [] s131 = some (r138, s138) := h138
        have HA2 : 0 ≤ (gI (vw t A s131) 46 0).toInt ∧ (gI (vw t A s131) 46 0).toInt < 800 := by rw [show gI (vw t A s131) 46 0 = gI (vw t A σ) 46 0 by rw [u131, gI_ne (by decide), u107, gI_ne (by decide), u100, gI_ne (by decide)]]; exact HA
        have HM2 : 0 ≤ (gI (vw t A s131) 47 0).toInt ∧ (gI (vw t A s131) 47 0).toInt ≤ 1000 := by rw [show gI (vw t A s131) 47 0 = gI (vw t A σ) 47 0 by rw [u131, gI_ne (by decide), u107, gI_ne (by decide), u100, gI_ne (by decide)]]; exact HM
        obtain ⟨er138, S138, F138, N138⟩ := pc_tells S131.1 h138 HA2 HM2
        have er138 : r138 = none := er138
        subst er138
        try dsimp only at S138
        try dsimp only at F138
        try dsimp only at N138
        have h : prun n36 159 141 [(2, .int w92), (0, .ref t), (1, .int hh)] [] s138 = some x := h
        have ex := u_ret37 h (by decide +kernel : pins 159 141 = some (37, 142, 0, 0, []))
        subst ex
        have z : ∀ (V : Nat → Nat → Value) (r j q : Nat) (v : Value), isRw r = true → (¬ (j = r ∧ q = hh.toNatClampNeg)) → up V r hh.toNatClampNeg v j q = V j q := fun V r j q v hr h => by
          by_cases e : j = r
          · subst e; exact up_ni hr (fun e => h ⟨rfl, e⟩)
          · exact up_ne e
        obtain ⟨p, n1, n2, _⟩ := N138
        refine ⟨rfl, (((S100.tr S107).tr S131).tr S138), Or.inr ⟨by rw [← e5]; omega, vw t A s131, p, fun j q hj => ?_, Or.inr (by rw [u131, gL_eq, e128]), F138, n1, n2⟩⟩
        rw [u131, z _ _ _ _ _ (by decide) (fun e => hj ⟨by omega, e.2⟩), u107, z _ _ _ _ _ (by decide) (fun e => hj ⟨by omega, e.2⟩), u100, z _ _ _ _ _ (by decide) (fun e => hj ⟨by omega, e.2⟩)]
      · exfalso; omega
    · obtain ⟨n38, w88, l38, ⟨e88, i88⟩, h⟩ := u_ic h (by decide +kernel : pins 159 88 = some (0, 89, 1, 0, [])) (by decide)
      obtain ⟨n39, l39, h⟩ := u_go h (by decide +kernel : pins 159 89 = some (20, 92, 0, ((93 : Nat) : Int), []))
      obtain ⟨n40, l40, h⟩ := v_is h (by decide +kernel : pins 159 93 = some (6, 94, 2, 0, []))
      have h : prun n40 159 94 [(2, .int w88), (0, .ref t), (1, .int hh)] [] σ = some x := h
      obtain ⟨n41, l41, h⟩ := v_al h (by decide +kernel : pins 159 94 = some (5, 95, 0, 0, [])) (v := t) rfl
      obtain ⟨n42, l42, h⟩ := w_row (k := 16) W h (by decide +kernel : pins 159 95 = some (22, 98, 13, 16, [])) (by decide)
      obtain ⟨n43, l43, h⟩ := v_il h (by decide +kernel : pins 159 98 = some (3, 99, 1, 0, [])) (v := hh) rfl
      obtain ⟨n44, w99, l44, ⟨e99, i99⟩, h⟩ := u_ic h (by decide +kernel : pins 159 99 = some (0, 100, 3, 0, [])) (by decide)
      obtain ⟨n45, s100, l45, b100, S100, u100, h⟩ := w_iast W h (by decide +kernel : pins 159 100 = some (28, 101, 0, 0, [])) (by decide)
      obtain ⟨n46, l46, h⟩ := v_al h (by decide +kernel : pins 159 101 = some (5, 102, 0, 0, [])) (v := t) rfl
      obtain ⟨n47, l47, h⟩ := w_row (k := 17) S100.1 h (by decide +kernel : pins 159 102 = some (22, 105, 13, 17, [])) (by decide)
      obtain ⟨n48, l48, h⟩ := v_il h (by decide +kernel : pins 159 105 = some (3, 106, 1, 0, [])) (v := hh) rfl
      obtain ⟨n49, w106, l49, ⟨e106, i106⟩, h⟩ := u_ic h (by decide +kernel : pins 159 106 = some (0, 107, 4, 0, [])) (by decide)
      obtain ⟨n50, s107, l50, b107, S107, u107, h⟩ := w_iast S100.1 h (by decide +kernel : pins 159 107 = some (28, 108, 0, 0, [])) (by decide)
      obtain ⟨n51, l51, h⟩ := v_al h (by decide +kernel : pins 159 108 = some (5, 109, 0, 0, [])) (v := t) rfl
      obtain ⟨n52, l52, h⟩ := w_row (k := 18) S107.1 h (by decide +kernel : pins 159 109 = some (22, 112, 13, 18, [])) (by decide)
      obtain ⟨n53, l53, h⟩ := v_il h (by decide +kernel : pins 159 112 = some (3, 113, 1, 0, [])) (v := hh) rfl
      obtain ⟨n54, l54, h⟩ := v_il h (by decide +kernel : pins 159 113 = some (3, 114, 2, 0, [])) (v := w88) rfl
      obtain ⟨n55, l55, ⟨c114, h⟩ | ⟨c114, h⟩⟩ := u_if0 h (by decide +kernel : pins 159 114 = some (16, 117, 0, ((128 : Nat) : Int), []))
      · exfalso; omega
      · obtain ⟨n56, l56, h⟩ := v_al h (by decide +kernel : pins 159 117 = some (5, 118, 0, 0, [])) (v := t) rfl
        obtain ⟨n57, w118, l57, e118, h⟩ := w_fl S107.1 h (by decide +kernel : pins 159 118 = some (22, 121, 13, 0, []))
        obtain ⟨n58, w121, l58, e121, h⟩ := u_lc h (by decide +kernel : pins 159 121 = some (1, 124, 1000, 0, []))
        have i121 : w121.toInt = 1000 := by rw [e121]; decide
        obtain ⟨n59, w124, l59, e124, h⟩ := u_ladd h (by decide +kernel : pins 159 124 = some (11, 125, 0, 0, []))
        obtain ⟨n60, l60, h⟩ := u_go h (by decide +kernel : pins 159 125 = some (20, 128, 0, ((131 : Nat) : Int), []))
        obtain ⟨n61, s131, l61, b131, S131, u131, h⟩ := w_last S107.1 h (by decide +kernel : pins 159 131 = some (30, 132, 0, 0, [])) (by decide)
        obtain ⟨n62, l62, h⟩ := v_al h (by decide +kernel : pins 159 132 = some (5, 133, 0, 0, [])) (v := t) rfl
        obtain ⟨n63, l63, h⟩ := v_il h (by decide +kernel : pins 159 133 = some (3, 134, 1, 0, [])) (v := hh) rfl
        obtain ⟨n64, w134, l64, ⟨e134, i134⟩, h⟩ := u_ic h (by decide +kernel : pins 159 134 = some (0, 137, 120000, 0, [])) (by decide)
        obtain ⟨n65, w137, l65, ⟨e137, i137⟩, h⟩ := u_ic h (by decide +kernel : pins 159 137 = some (0, 138, 1, 0, [])) (by decide)
        obtain ⟨n66, r138, s138, l66, h138, h⟩ := pinv_call h (by decide +kernel : pins 159 138 = some (36, 141, 152, 0, [4]))
        have h138 : prun n66 152 0 (lv_args 0 [.ref t, .int hh, .int w134, .int w137]) [] s131 = some (r138, s138) := h138
        have HA2 : 0 ≤ (gI (vw t A s131) 46 0).toInt ∧ (gI (vw t A s131) 46 0).toInt < 800 := by rw [show gI (vw t A s131) 46 0 = gI (vw t A σ) 46 0 by rw [u131, gI_ne (by decide), u107, gI_ne (by decide), u100, gI_ne (by decide)]]; exact HA
        have HM2 : 0 ≤ (gI (vw t A s131) 47 0).toInt ∧ (gI (vw t A s131) 47 0).toInt ≤ 1000 := by rw [show gI (vw t A s131) 47 0 = gI (vw t A σ) 47 0 by rw [u131, gI_ne (by decide), u107, gI_ne (by decide), u100, gI_ne (by decide)]]; exact HM
        obtain ⟨er138, S138, F138, N138⟩ := pc_tells S131.1 h138 HA2 HM2
        have er138 : r138 = none := er138
        subst er138
        try dsimp only at S138
        try dsimp only at F138
        try dsimp only at N138
        have h : prun n66 159 141 [(2, .int w88), (0, .ref t), (1, .int hh)] [] s138 = some x := h
        have ex := u_ret37 h (by decide +kernel : pins 159 141 = some (37, 142, 0, 0, []))
        subst ex
        have z : ∀ (V : Nat → Nat → Value) (r j q : Nat) (v : Value), isRw r = true → (¬ (j = r ∧ q = hh.toNatClampNeg)) → up V r hh.toNatClampNeg v j q = V j q := fun V r j q v hr h => by
          by_cases e : j = r
          · subst e; exact up_ni hr (fun e => h ⟨rfl, e⟩)
          · exact up_ne e
        obtain ⟨p, n1, n2, _⟩ := N138
        refine ⟨rfl, (((S100.tr S107).tr S131).tr S138), Or.inr ⟨by rw [← e5]; omega, vw t A s131, p, fun j q hj => ?_, Or.inl (by rw [u131, gL_eq, e124, e118, u107, gL_ne (by decide), u100, gL_ne (by decide), e121]), F138, n1, n2⟩⟩
        rw [u131, z _ _ _ _ _ (by decide) (fun e => hj ⟨by omega, e.2⟩), u107, z _ _ _ _ _ (by decide) (fun e => hj ⟨by omega, e.2⟩), u100, z _ _ _ _ _ (by decide) (fun e => hj ⟨by omega, e.2⟩)]
  · obtain ⟨n68, l68, h⟩ := v_al h (by decide +kernel : pins 159 10 = some (5, 11, 0, 0, [])) (v := t) rfl
    obtain ⟨n69, w11, l69, ⟨e11, i11⟩, h⟩ := u_ic h (by decide +kernel : pins 159 11 = some (0, 12, 3, 0, [])) (by decide)
    obtain ⟨n70, r12, s12, l70, h12, h⟩ := pinv_call h (by decide +kernel : pins 159 12 = some (36, 15, 144, 0, [2]))
    have h12 : prun n70 144 0 (lv_args 0 [.ref t, .int w11]) [] σ = some (r12, s12) := h12
    obtain ⟨er12, S12, v12⟩ := pc_begin W h12
    have er12 : r12 = none := er12
    subst er12
    try dsimp only at S12
    try dsimp only at v12
    have h : prun n70 159 15 [(0, .ref t), (1, .int hh)] [] s12 = some x := h
    obtain ⟨n71, l71, h⟩ := v_al h (by decide +kernel : pins 159 15 = some (5, 16, 0, 0, [])) (v := t) rfl
    obtain ⟨n72, l72, h⟩ := v_al h (by decide +kernel : pins 159 16 = some (5, 17, 0, 0, [])) (v := t) rfl
    obtain ⟨n73, l73, h⟩ := w_row (k := 21) S12.1 h (by decide +kernel : pins 159 17 = some (22, 20, 13, 21, [])) (by decide)
    obtain ⟨n74, w20, l74, ⟨e20, i20⟩, h⟩ := u_ic h (by decide +kernel : pins 159 20 = some (0, 22, 16, 0, [])) (by decide)
    obtain ⟨n75, l75, h⟩ := v_il h (by decide +kernel : pins 159 22 = some (3, 23, 1, 0, [])) (v := hh) rfl
    obtain ⟨n76, w23, l76, e23, h⟩ := u_mul h (by decide +kernel : pins 159 23 = some (10, 24, 2, 0, []))
    obtain ⟨n77, r24, s24, l77, h24, h⟩ := pinv_call h (by decide +kernel : pins 159 24 = some (36, 27, 146, 0, [3]))
    have h24 : prun n77 146 0 (lv_args 0 [.ref t, .ref (A 21), .int w23]) [] s12 = some (r24, s24) := h24
    obtain ⟨er24, S24, o24⟩ := pc_putWord S12.1 h24 (by decide)
    have er24 : r24 = none := er24
    subst er24
    try dsimp only at S24
    try dsimp only at o24
    have h : prun n77 159 27 [(0, .ref t), (1, .int hh)] [] s24 = some x := h
    obtain ⟨n78, l78, h⟩ := v_al h (by decide +kernel : pins 159 27 = some (5, 28, 0, 0, [])) (v := t) rfl
    obtain ⟨n79, l79, h⟩ := v_al h (by decide +kernel : pins 159 28 = some (5, 29, 0, 0, [])) (v := t) rfl
    obtain ⟨n80, l80, h⟩ := v_il h (by decide +kernel : pins 159 29 = some (3, 30, 1, 0, [])) (v := hh) rfl
    obtain ⟨n81, r30, s30, l81, h30, h⟩ := pinv_call h (by decide +kernel : pins 159 30 = some (36, 33, 148, 0, [2]))
    have h30 : prun n81 148 0 (lv_args 0 [.ref t, .int hh]) [] s24 = some (r30, s30) := h30
    obtain ⟨es30, w30, er30, f30⟩ := pc_address S24.1 h30
    have er30 : r30 = some (.int w30) := er30
    have et30 : s30 = s24 := es30
    rw [et30] at h
    subst er30
    have h : prun n81 159 33 [(0, .ref t), (1, .int hh)] [.int w30, .ref t] s24 = some x := h
    obtain ⟨n82, w33, l82, ⟨e33, i33⟩, h⟩ := u_ic h (by decide +kernel : pins 159 33 = some (0, 34, 2, 0, [])) (by decide)
    obtain ⟨n83, r34, s34, l83, h34, h⟩ := pinv_call h (by decide +kernel : pins 159 34 = some (36, 37, 145, 0, [3]))
    have h34 : prun n83 145 0 (lv_args 0 [.ref t, .int w30, .int w33]) [] s24 = some (r34, s34) := h34
    obtain ⟨er34, S34, p34, g34, y34⟩ := pc_put S24.1 h34 (by rw [e33]; decide)
    have er34 : r34 = none := er34
    subst er34
    try dsimp only at S34
    try dsimp only at p34
    try dsimp only at g34
    try dsimp only at y34
    have h : prun n83 159 37 [(0, .ref t), (1, .int hh)] [] s34 = some x := h
    obtain ⟨n84, l84, h⟩ := v_al h (by decide +kernel : pins 159 37 = some (5, 38, 0, 0, [])) (v := t) rfl
    obtain ⟨n85, l85, h⟩ := v_al h (by decide +kernel : pins 159 38 = some (5, 39, 0, 0, [])) (v := t) rfl
    obtain ⟨n86, l86, h⟩ := w_row (k := 5) S34.1 h (by decide +kernel : pins 159 39 = some (22, 42, 13, 5, [])) (by decide)
    obtain ⟨n87, l87, h⟩ := v_il h (by decide +kernel : pins 159 42 = some (3, 43, 1, 0, [])) (v := hh) rfl
    obtain ⟨n88, w43, l88, b43, e43, h⟩ := w_iald S34.1 h (by decide +kernel : pins 159 43 = some (24, 44, 0, 0, [])) (by decide)
    obtain ⟨n89, w44, l89, ⟨e44, i44⟩, h⟩ := u_ic h (by decide +kernel : pins 159 44 = some (0, 45, 2, 0, [])) (by decide)
    obtain ⟨n90, r45, s45, l90, h45, h⟩ := pinv_call h (by decide +kernel : pins 159 45 = some (36, 48, 145, 0, [3]))
    have h45 : prun n90 145 0 (lv_args 0 [.ref t, .int w43, .int w44]) [] s34 = some (r45, s45) := h45
    obtain ⟨er45, S45, p45, g45, y45⟩ := pc_put S34.1 h45 (by rw [e44]; decide)
    have er45 : r45 = none := er45
    subst er45
    try dsimp only at S45
    try dsimp only at p45
    try dsimp only at g45
    try dsimp only at y45
    have h : prun n90 159 48 [(0, .ref t), (1, .int hh)] [] s45 = some x := h
    obtain ⟨n91, l91, h⟩ := v_al h (by decide +kernel : pins 159 48 = some (5, 49, 0, 0, [])) (v := t) rfl
    obtain ⟨n92, l92, h⟩ := v_il h (by decide +kernel : pins 159 49 = some (3, 50, 1, 0, [])) (v := hh) rfl
    obtain ⟨n93, r50, s50, l93, h50, h⟩ := pinv_call h (by decide +kernel : pins 159 50 = some (36, 53, 147, 0, [2]))
    have h50 : prun n93 147 0 (lv_args 0 [.ref t, .int hh]) [] s45 = some (r50, s50) := h50
    have F24 : FrO (vw t A s12) (vw t A s24) := o24
    have F34 := put_fro p34 g34 (by rw [i33]; decide)
    have F45 := put_fro p45 g45 (by rw [i44]; decide)
    have FF := (F24.tr F34).tr F45
    obtain ⟨HA2, HM2⟩ := pre_snd v12 FF HA HM
    obtain ⟨er50, S50, m50, j50, k50, ra50, rb50⟩ := pc_send S45.1 h50 HA2 HM2
    have er50 : r50 = none := er50
    subst er50
    try dsimp only at S50
    try dsimp only at m50
    try dsimp only at j50
    try dsimp only at k50
    try dsimp only at ra50
    try dsimp only at rb50
    have h : prun n93 159 53 [(0, .ref t), (1, .int hh)] [] s50 = some x := h
    obtain ⟨n94, l94, h⟩ := v_al h (by decide +kernel : pins 159 53 = some (5, 54, 0, 0, [])) (v := t) rfl
    obtain ⟨n95, l95, h⟩ := w_row (k := 17) S50.1 h (by decide +kernel : pins 159 54 = some (22, 57, 13, 17, [])) (by decide)
    obtain ⟨n96, l96, h⟩ := v_il h (by decide +kernel : pins 159 57 = some (3, 58, 1, 0, [])) (v := hh) rfl
    obtain ⟨n97, l97, h⟩ := v_dup2 h (by decide +kernel : pins 159 58 = some (35, 59, 0, 0, []))
    obtain ⟨n98, w59, l98, b59, e59, h⟩ := w_iald S50.1 h (by decide +kernel : pins 159 59 = some (24, 60, 0, 0, [])) (by decide)
    obtain ⟨n99, w60, l99, ⟨e60, i60⟩, h⟩ := u_ic h (by decide +kernel : pins 159 60 = some (0, 61, 1, 0, [])) (by decide)
    obtain ⟨n100, w61, l100, e61, h⟩ := u_add h (by decide +kernel : pins 159 61 = some (10, 62, 0, 0, []))
    obtain ⟨n101, s62, l101, b62, S62, u62, h⟩ := w_iast S50.1 h (by decide +kernel : pins 159 62 = some (28, 63, 0, 0, [])) (by decide)
    obtain ⟨n102, l102, h⟩ := v_al h (by decide +kernel : pins 159 63 = some (5, 64, 0, 0, [])) (v := t) rfl
    obtain ⟨n103, l103, h⟩ := w_row (k := 18) S62.1 h (by decide +kernel : pins 159 64 = some (22, 67, 13, 18, [])) (by decide)
    obtain ⟨n104, l104, h⟩ := v_il h (by decide +kernel : pins 159 67 = some (3, 68, 1, 0, [])) (v := hh) rfl
    obtain ⟨n105, l105, h⟩ := v_al h (by decide +kernel : pins 159 68 = some (5, 69, 0, 0, [])) (v := t) rfl
    obtain ⟨n106, w69, l106, e69, h⟩ := w_fl S62.1 h (by decide +kernel : pins 159 69 = some (22, 72, 13, 0, []))
    obtain ⟨n107, w72, l107, e72, h⟩ := u_lc h (by decide +kernel : pins 159 72 = some (1, 75, 250, 0, []))
    have i72 : w72.toInt = 250 := by rw [e72]; decide
    obtain ⟨n108, w75, l108, e75, h⟩ := u_ladd h (by decide +kernel : pins 159 75 = some (11, 76, 0, 0, []))
    obtain ⟨n109, s76, l109, b76, S76, u76, h⟩ := w_last S62.1 h (by decide +kernel : pins 159 76 = some (30, 77, 0, 0, [])) (by decide)
    have ex := u_ret37 h (by decide +kernel : pins 159 77 = some (37, 78, 0, 0, []))
    subst ex
    have z : ∀ (V : Nat → Nat → Value) (r j q : Nat) (v : Value), isRw r = true → (¬ (j = r ∧ q = hh.toNatClampNeg)) → up V r hh.toNatClampNeg v j q = V j q := fun V r j q v hr h => by
      by_cases e : j = r
      · subst e; exact up_ni hr (fun e => h ⟨rfl, e⟩)
      · exact up_ne e
    obtain ⟨a1, p, a2, a3, _, _⟩ := all_snd v12 FF (fun h => by omega) m50 j50 k50 ra50 rb50
    have := a3 (Or.inr (Or.inl i11))
    subst this
    refine ⟨rfl, ((((((S12.tr S24).tr S34).tr S45).tr S50).tr S62).tr S76), Or.inl ⟨by rw [← e5]; omega, _, a1, a2, fun j q hj => ?_, ?_⟩⟩
    · show vw t A s76 j q = _
      rw [u76, z _ _ _ _ _ (by decide) (fun e => hj ⟨by omega, e.2⟩), u62, z _ _ _ _ _ (by decide) (fun e => hj ⟨by omega, e.2⟩)]
    · show gL (vw t A s76) 18 _ = _
      rw [u76, gL_eq, e75, e69, u62, gL_ne (by decide), e72]
      unfold gL
      rw [a1 0 0 (by decide)]
def Ask3 (V V' : Nat → Nat → Value) (k : Nat) : Prop := ∃ V1, (∀ j q : Nat, ¬ ((j = 27 ∨ j = 28) ∧ q = k) → V1 j q = V j q) ∧ gL V1 27 k = gL V 0 0 + (gI V 28 k).toInt64 ∧ (((gI V 28 k).toInt < 64000 ∧ gI V1 28 k = Int32.ofInt 2 * gI V 28 k) ∨ (64000 ≤ (gI V 28 k).toInt ∧ (gI V1 28 k).toInt = 64000)) ∧ FrS V1 V' ∧ Snd V1 V' 8
theorem pc_asks {t n : Nat} {A : Nat → Nat} {hh : Int32} {σ : ps} {x : Option Value × ps} (W : Wld t A σ) (h : prun n 160 0 (lv_args 0 [.ref t, .int hh]) [] σ = some x) (HA : 0 ≤ (gI (vw t A σ) 46 0).toInt ∧ (gI (vw t A σ) 46 0).toInt < 800) (HM : 0 ≤ (gI (vw t A σ) 47 0).toInt ∧ (gI (vw t A σ) 47 0).toInt ≤ 1000) : x.1 = none ∧ SP t A σ x.2 ∧ Ask3 (vw t A σ) (vw t A x.2) hh.toNatClampNeg := by
  have h : prun n 160 0 [(0, .ref t), (1, .int hh)] [] σ = some x := h
  obtain ⟨n1, l1, h⟩ := v_al h (by decide +kernel : pins 160 0 = some (5, 1, 0, 0, [])) (v := t) rfl
  obtain ⟨n2, l2, h⟩ := w_row (k := 27) W h (by decide +kernel : pins 160 1 = some (22, 4, 13, 27, [])) (by decide)
  obtain ⟨n3, l3, h⟩ := v_il h (by decide +kernel : pins 160 4 = some (3, 5, 1, 0, [])) (v := hh) rfl
  obtain ⟨n4, l4, h⟩ := v_al h (by decide +kernel : pins 160 5 = some (5, 6, 0, 0, [])) (v := t) rfl
  obtain ⟨n5, w6, l5, e6, h⟩ := w_fl W h (by decide +kernel : pins 160 6 = some (22, 9, 13, 0, []))
  obtain ⟨n6, l6, h⟩ := v_al h (by decide +kernel : pins 160 9 = some (5, 10, 0, 0, [])) (v := t) rfl
  obtain ⟨n7, l7, h⟩ := w_row (k := 28) W h (by decide +kernel : pins 160 10 = some (22, 13, 13, 28, [])) (by decide)
  obtain ⟨n8, l8, h⟩ := v_il h (by decide +kernel : pins 160 13 = some (3, 14, 1, 0, [])) (v := hh) rfl
  obtain ⟨n9, w14, l9, b14, e14, h⟩ := w_iald W h (by decide +kernel : pins 160 14 = some (24, 15, 0, 0, [])) (by decide)
  obtain ⟨n10, w15, l10, e15, h⟩ := u_i2l h (by decide +kernel : pins 160 15 = some (13, 16, 0, 0, []))
  obtain ⟨n11, w16, l11, e16, h⟩ := u_ladd h (by decide +kernel : pins 160 16 = some (11, 17, 0, 0, []))
  obtain ⟨n12, s17, l12, b17, S17, u17, h⟩ := w_last W h (by decide +kernel : pins 160 17 = some (30, 18, 0, 0, [])) (by decide)
  obtain ⟨n13, l13, h⟩ := v_al h (by decide +kernel : pins 160 18 = some (5, 19, 0, 0, [])) (v := t) rfl
  obtain ⟨n14, l14, h⟩ := w_row (k := 28) S17.1 h (by decide +kernel : pins 160 19 = some (22, 22, 13, 28, [])) (by decide)
  obtain ⟨n15, l15, h⟩ := v_il h (by decide +kernel : pins 160 22 = some (3, 23, 1, 0, [])) (v := hh) rfl
  obtain ⟨n16, l16, h⟩ := v_al h (by decide +kernel : pins 160 23 = some (5, 24, 0, 0, [])) (v := t) rfl
  obtain ⟨n17, l17, h⟩ := w_row (k := 28) S17.1 h (by decide +kernel : pins 160 24 = some (22, 27, 13, 28, [])) (by decide)
  obtain ⟨n18, l18, h⟩ := v_il h (by decide +kernel : pins 160 27 = some (3, 28, 1, 0, [])) (v := hh) rfl
  obtain ⟨n19, w28, l19, b28, e28, h⟩ := w_iald S17.1 h (by decide +kernel : pins 160 28 = some (24, 29, 0, 0, [])) (by decide)
  obtain ⟨n20, w29, l20, ⟨e29, i29⟩, h⟩ := u_ic h (by decide +kernel : pins 160 29 = some (0, 32, 64000, 0, [])) (by decide)
  obtain ⟨n21, l21, ⟨c32, h⟩ | ⟨c32, h⟩⟩ := u_ic3 h (by decide +kernel : pins 160 32 = some (17, 35, 3, ((46 : Nat) : Int), []))
  · obtain ⟨n22, w46, l22, ⟨e46, i46⟩, h⟩ := u_ic h (by decide +kernel : pins 160 46 = some (0, 49, 64000, 0, [])) (by decide)
    obtain ⟨n23, s49, l23, b49, S49, u49, h⟩ := w_iast S17.1 h (by decide +kernel : pins 160 49 = some (28, 50, 0, 0, [])) (by decide)
    obtain ⟨n24, l24, h⟩ := v_al h (by decide +kernel : pins 160 50 = some (5, 51, 0, 0, [])) (v := t) rfl
    obtain ⟨n25, l25, h⟩ := v_il h (by decide +kernel : pins 160 51 = some (3, 52, 1, 0, [])) (v := hh) rfl
    obtain ⟨n26, w52, l26, ⟨e52, i52⟩, h⟩ := u_ic h (by decide +kernel : pins 160 52 = some (0, 53, 4, 0, [])) (by decide)
    obtain ⟨n27, w53, l27, e53, h⟩ := u_div h (by decide +kernel : pins 160 53 = some (10, 54, 3, 0, [])) (by rw [e52]; decide)
    obtain ⟨n28, l28, h⟩ := v_al h (by decide +kernel : pins 160 54 = some (5, 55, 0, 0, [])) (v := t) rfl
    obtain ⟨n29, l29, h⟩ := w_row (k := 26) S49.1 h (by decide +kernel : pins 160 55 = some (22, 58, 13, 26, [])) (by decide)
    obtain ⟨n30, l30, h⟩ := v_il h (by decide +kernel : pins 160 58 = some (3, 59, 1, 0, [])) (v := hh) rfl
    obtain ⟨n31, w59, l31, b59, e59, h⟩ := w_iald S49.1 h (by decide +kernel : pins 160 59 = some (24, 60, 0, 0, [])) (by decide)
    obtain ⟨n32, l32, h⟩ := v_al h (by decide +kernel : pins 160 60 = some (5, 61, 0, 0, [])) (v := t) rfl
    obtain ⟨n33, l33, h⟩ := w_row (k := 25) S49.1 h (by decide +kernel : pins 160 61 = some (22, 64, 13, 25, [])) (by decide)
    obtain ⟨n34, w64, l34, ⟨e64, i64⟩, h⟩ := u_ic h (by decide +kernel : pins 160 64 = some (0, 66, 16, 0, [])) (by decide)
    obtain ⟨n35, l35, h⟩ := v_il h (by decide +kernel : pins 160 66 = some (3, 67, 1, 0, [])) (v := hh) rfl
    obtain ⟨n36, w67, l36, e67, h⟩ := u_mul h (by decide +kernel : pins 160 67 = some (10, 68, 2, 0, []))
    obtain ⟨n37, w68, l37, ⟨e68, i68⟩, h⟩ := u_ic h (by decide +kernel : pins 160 68 = some (0, 69, 1, 0, [])) (by decide)
    obtain ⟨n38, r69, s69, l38, h69, h⟩ := pinv_call h (by decide +kernel : pins 160 69 = some (36, 72, 153, 0, [6]))
    have h69 : prun n38 153 0 (lv_args 0 [.ref t, .int w53, .int w59, .ref (A 25), .int w67, .int w68]) [] s49 = some (r69, s69) := h69
    have HA2 : 0 ≤ (gI (vw t A s49) 46 0).toInt ∧ (gI (vw t A s49) 46 0).toInt < 800 := by rw [show gI (vw t A s49) 46 0 = gI (vw t A σ) 46 0 by rw [u49, gI_ne (by decide), u17, gI_ne (by decide)]]; exact HA
    have HM2 : 0 ≤ (gI (vw t A s49) 47 0).toInt ∧ (gI (vw t A s49) 47 0).toInt ≤ 1000 := by rw [show gI (vw t A s49) 47 0 = gI (vw t A σ) 47 0 by rw [u49, gI_ne (by decide), u17, gI_ne (by decide)]]; exact HM
    obtain ⟨er69, S69, F69, N69⟩ := pc_sendAsk S49.1 h69 (by decide) HA2 HM2
    have er69 : r69 = none := er69
    subst er69
    try dsimp only at S69
    try dsimp only at F69
    try dsimp only at N69
    have h : prun n38 160 72 [(0, .ref t), (1, .int hh)] [] s69 = some x := h
    have ex := u_ret37 h (by decide +kernel : pins 160 72 = some (37, 73, 0, 0, []))
    subst ex
    have z : ∀ (V : Nat → Nat → Value) (r j q : Nat) (v : Value), isRw r = true → (¬ (j = r ∧ q = hh.toNatClampNeg)) → up V r hh.toNatClampNeg v j q = V j q := fun V r j q v hr h => by
      by_cases e : j = r
      · subst e; exact up_ni hr (fun e => h ⟨rfl, e⟩)
      · exact up_ne e
    have g28 : w28 = gI (vw t A σ) 28 hh.toNatClampNeg := by rw [e28, u17, gI_ne (by decide)]
    refine ⟨rfl, ((S17.tr S49).tr S69), vw t A s49, fun j q hj => ?_, ?_, Or.inr ⟨by rw [← g28]; omega, by rw [u49, gI_eq, i46]⟩, F69, N69⟩
    · rw [u49, z _ _ _ _ _ (by decide) (fun e => hj ⟨by omega, e.2⟩), u17, z _ _ _ _ _ (by decide) (fun e => hj ⟨by omega, e.2⟩)]
    · rw [u49, gL_ne (by decide), u17, gL_eq, e16, e6, e15, e14]
  · obtain ⟨n40, w35, l40, ⟨e35, i35⟩, h⟩ := u_ic h (by decide +kernel : pins 160 35 = some (0, 36, 2, 0, [])) (by decide)
    obtain ⟨n41, l41, h⟩ := v_al h (by decide +kernel : pins 160 36 = some (5, 37, 0, 0, [])) (v := t) rfl
    obtain ⟨n42, l42, h⟩ := w_row (k := 28) S17.1 h (by decide +kernel : pins 160 37 = some (22, 40, 13, 28, [])) (by decide)
    obtain ⟨n43, l43, h⟩ := v_il h (by decide +kernel : pins 160 40 = some (3, 41, 1, 0, [])) (v := hh) rfl
    obtain ⟨n44, w41, l44, b41, e41, h⟩ := w_iald S17.1 h (by decide +kernel : pins 160 41 = some (24, 42, 0, 0, [])) (by decide)
    obtain ⟨n45, w42, l45, e42, h⟩ := u_mul h (by decide +kernel : pins 160 42 = some (10, 43, 2, 0, []))
    obtain ⟨n46, l46, h⟩ := u_go h (by decide +kernel : pins 160 43 = some (20, 46, 0, ((49 : Nat) : Int), []))
    obtain ⟨n47, s49, l47, b49, S49, u49, h⟩ := w_iast S17.1 h (by decide +kernel : pins 160 49 = some (28, 50, 0, 0, [])) (by decide)
    obtain ⟨n48, l48, h⟩ := v_al h (by decide +kernel : pins 160 50 = some (5, 51, 0, 0, [])) (v := t) rfl
    obtain ⟨n49, l49, h⟩ := v_il h (by decide +kernel : pins 160 51 = some (3, 52, 1, 0, [])) (v := hh) rfl
    obtain ⟨n50, w52, l50, ⟨e52, i52⟩, h⟩ := u_ic h (by decide +kernel : pins 160 52 = some (0, 53, 4, 0, [])) (by decide)
    obtain ⟨n51, w53, l51, e53, h⟩ := u_div h (by decide +kernel : pins 160 53 = some (10, 54, 3, 0, [])) (by rw [e52]; decide)
    obtain ⟨n52, l52, h⟩ := v_al h (by decide +kernel : pins 160 54 = some (5, 55, 0, 0, [])) (v := t) rfl
    obtain ⟨n53, l53, h⟩ := w_row (k := 26) S49.1 h (by decide +kernel : pins 160 55 = some (22, 58, 13, 26, [])) (by decide)
    obtain ⟨n54, l54, h⟩ := v_il h (by decide +kernel : pins 160 58 = some (3, 59, 1, 0, [])) (v := hh) rfl
    obtain ⟨n55, w59, l55, b59, e59, h⟩ := w_iald S49.1 h (by decide +kernel : pins 160 59 = some (24, 60, 0, 0, [])) (by decide)
    obtain ⟨n56, l56, h⟩ := v_al h (by decide +kernel : pins 160 60 = some (5, 61, 0, 0, [])) (v := t) rfl
    obtain ⟨n57, l57, h⟩ := w_row (k := 25) S49.1 h (by decide +kernel : pins 160 61 = some (22, 64, 13, 25, [])) (by decide)
    obtain ⟨n58, w64, l58, ⟨e64, i64⟩, h⟩ := u_ic h (by decide +kernel : pins 160 64 = some (0, 66, 16, 0, [])) (by decide)
    obtain ⟨n59, l59, h⟩ := v_il h (by decide +kernel : pins 160 66 = some (3, 67, 1, 0, [])) (v := hh) rfl
    obtain ⟨n60, w67, l60, e67, h⟩ := u_mul h (by decide +kernel : pins 160 67 = some (10, 68, 2, 0, []))
    obtain ⟨n61, w68, l61, ⟨e68, i68⟩, h⟩ := u_ic h (by decide +kernel : pins 160 68 = some (0, 69, 1, 0, [])) (by decide)
    obtain ⟨n62, r69, s69, l62, h69, h⟩ := pinv_call h (by decide +kernel : pins 160 69 = some (36, 72, 153, 0, [6]))
    have h69 : prun n62 153 0 (lv_args 0 [.ref t, .int w53, .int w59, .ref (A 25), .int w67, .int w68]) [] s49 = some (r69, s69) := h69
    have HA2 : 0 ≤ (gI (vw t A s49) 46 0).toInt ∧ (gI (vw t A s49) 46 0).toInt < 800 := by rw [show gI (vw t A s49) 46 0 = gI (vw t A σ) 46 0 by rw [u49, gI_ne (by decide), u17, gI_ne (by decide)]]; exact HA
    have HM2 : 0 ≤ (gI (vw t A s49) 47 0).toInt ∧ (gI (vw t A s49) 47 0).toInt ≤ 1000 := by rw [show gI (vw t A s49) 47 0 = gI (vw t A σ) 47 0 by rw [u49, gI_ne (by decide), u17, gI_ne (by decide)]]; exact HM
    obtain ⟨er69, S69, F69, N69⟩ := pc_sendAsk S49.1 h69 (by decide) HA2 HM2
    have er69 : r69 = none := er69
    subst er69
    try dsimp only at S69
    try dsimp only at F69
    try dsimp only at N69
    have h : prun n62 160 72 [(0, .ref t), (1, .int hh)] [] s69 = some x := h
    have ex := u_ret37 h (by decide +kernel : pins 160 72 = some (37, 73, 0, 0, []))
    subst ex
    have z : ∀ (V : Nat → Nat → Value) (r j q : Nat) (v : Value), isRw r = true → (¬ (j = r ∧ q = hh.toNatClampNeg)) → up V r hh.toNatClampNeg v j q = V j q := fun V r j q v hr h => by
      by_cases e : j = r
      · subst e; exact up_ni hr (fun e => h ⟨rfl, e⟩)
      · exact up_ne e
    have g28 : w28 = gI (vw t A σ) 28 hh.toNatClampNeg := by rw [e28, u17, gI_ne (by decide)]
    refine ⟨rfl, ((S17.tr S49).tr S69), vw t A s49, fun j q hj => ?_, ?_, Or.inl ⟨by rw [← g28]; omega, by rw [u49, gI_eq, e42, e35, e41, u17, gI_ne (by decide)]⟩, F69, N69⟩
    · rw [u49, z _ _ _ _ _ (by decide) (fun e => hj ⟨by omega, e.2⟩), u17, z _ _ _ _ _ (by decide) (fun e => hj ⟨by omega, e.2⟩)]
    · rw [u49, gL_ne (by decide), u17, gL_eq, e16, e6, e15, e14]
def eDue (V : Nat → Nat → Value) (k : Nat) (d : Int64) : Prop := ((¬ (gI V 38 k).toInt = 0 ∨ (gI V 39 k).toInt = 4) ∧ d = gL V 37 k) ∨ ((gI V 38 k).toInt = 0 ∧ ¬ (gI V 39 k).toInt = 4 ∧ ∃ y : Int64, y = gL V 36 k + (gI V 35 k).toInt64 * (Int32.ofInt 80 + Int32.ofInt 5 * gI V 39 k).toInt64 / Int64.ofInt 100 ∧ ((y.toInt < (gL V 37 k).toInt ∧ d = y) ∨ ((gL V 37 k).toInt ≤ y.toInt ∧ d = gL V 37 k)))
theorem pc_entryDue {t n : Nat} {A : Nat → Nat} {hh : Int32} {σ : ps} {x : Option Value × ps} (W : Wld t A σ) (h : prun n 162 0 (lv_args 0 [.ref t, .int hh]) [] σ = some x) : x.2 = σ ∧ ∃ w : Int64, x.1 = some (.long w) ∧ eDue (vw t A σ) hh.toNatClampNeg w := by
  have h : prun n 162 0 [(0, .ref t), (1, .int hh)] [] σ = some x := h
  obtain ⟨n1, l1, h⟩ := v_al h (by decide +kernel : pins 162 0 = some (5, 1, 0, 0, [])) (v := t) rfl
  obtain ⟨n2, l2, h⟩ := w_row (k := 38) W h (by decide +kernel : pins 162 1 = some (22, 4, 13, 38, [])) (by decide)
  obtain ⟨n3, l3, h⟩ := v_il h (by decide +kernel : pins 162 4 = some (3, 5, 1, 0, [])) (v := hh) rfl
  obtain ⟨n4, w5, l4, b5, e5, h⟩ := w_bald W h (by decide +kernel : pins 162 5 = some (25, 6, 0, 0, [])) (by decide)
  obtain ⟨n5, l5, ⟨c6, h⟩ | ⟨c6, h⟩⟩ := u_if1 h (by decide +kernel : pins 162 6 = some (16, 9, 1, ((19 : Nat) : Int), []))
  · obtain ⟨n6, l6, h⟩ := v_al h (by decide +kernel : pins 162 19 = some (5, 20, 0, 0, [])) (v := t) rfl
    obtain ⟨n7, l7, h⟩ := w_row (k := 37) W h (by decide +kernel : pins 162 20 = some (22, 23, 13, 37, [])) (by decide)
    obtain ⟨n8, l8, h⟩ := v_il h (by decide +kernel : pins 162 23 = some (3, 24, 1, 0, [])) (v := hh) rfl
    obtain ⟨n9, w24, l9, b24, e24, h⟩ := w_lald W h (by decide +kernel : pins 162 24 = some (26, 25, 0, 0, [])) (by decide)
    have ex := u_ret39 h (by decide +kernel : pins 162 25 = some (39, 26, 0, 0, []))
    subst ex
    exact ⟨rfl, _, rfl, Or.inl ⟨Or.inl (by rw [← e5]; exact c6), e24⟩⟩
  · obtain ⟨n11, l11, h⟩ := v_al h (by decide +kernel : pins 162 9 = some (5, 10, 0, 0, [])) (v := t) rfl
    obtain ⟨n12, l12, h⟩ := w_row (k := 39) W h (by decide +kernel : pins 162 10 = some (22, 13, 13, 39, [])) (by decide)
    obtain ⟨n13, l13, h⟩ := v_il h (by decide +kernel : pins 162 13 = some (3, 14, 1, 0, [])) (v := hh) rfl
    obtain ⟨n14, w14, l14, b14, e14, h⟩ := w_iald W h (by decide +kernel : pins 162 14 = some (24, 15, 0, 0, [])) (by decide)
    obtain ⟨n15, w15, l15, ⟨e15, i15⟩, h⟩ := u_ic h (by decide +kernel : pins 162 15 = some (0, 16, 4, 0, [])) (by decide)
    obtain ⟨n16, l16, ⟨c16, h⟩ | ⟨c16, h⟩⟩ := u_ic1 h (by decide +kernel : pins 162 16 = some (17, 19, 1, ((26 : Nat) : Int), []))
    · obtain ⟨n17, l17, h⟩ := v_al h (by decide +kernel : pins 162 26 = some (5, 27, 0, 0, [])) (v := t) rfl
      obtain ⟨n18, l18, h⟩ := w_row (k := 36) W h (by decide +kernel : pins 162 27 = some (22, 30, 13, 36, [])) (by decide)
      obtain ⟨n19, l19, h⟩ := v_il h (by decide +kernel : pins 162 30 = some (3, 31, 1, 0, [])) (v := hh) rfl
      obtain ⟨n20, w31, l20, b31, e31, h⟩ := w_lald W h (by decide +kernel : pins 162 31 = some (26, 32, 0, 0, [])) (by decide)
      obtain ⟨n21, l21, h⟩ := v_al h (by decide +kernel : pins 162 32 = some (5, 33, 0, 0, [])) (v := t) rfl
      obtain ⟨n22, l22, h⟩ := w_row (k := 35) W h (by decide +kernel : pins 162 33 = some (22, 36, 13, 35, [])) (by decide)
      obtain ⟨n23, l23, h⟩ := v_il h (by decide +kernel : pins 162 36 = some (3, 37, 1, 0, [])) (v := hh) rfl
      obtain ⟨n24, w37, l24, b37, e37, h⟩ := w_iald W h (by decide +kernel : pins 162 37 = some (24, 38, 0, 0, [])) (by decide)
      obtain ⟨n25, w38, l25, e38, h⟩ := u_i2l h (by decide +kernel : pins 162 38 = some (13, 39, 0, 0, []))
      obtain ⟨n26, w39, l26, ⟨e39, i39⟩, h⟩ := u_ic h (by decide +kernel : pins 162 39 = some (0, 41, 80, 0, [])) (by decide)
      obtain ⟨n27, w41, l27, ⟨e41, i41⟩, h⟩ := u_ic h (by decide +kernel : pins 162 41 = some (0, 42, 5, 0, [])) (by decide)
      obtain ⟨n28, l28, h⟩ := v_al h (by decide +kernel : pins 162 42 = some (5, 43, 0, 0, [])) (v := t) rfl
      obtain ⟨n29, l29, h⟩ := w_row (k := 39) W h (by decide +kernel : pins 162 43 = some (22, 46, 13, 39, [])) (by decide)
      obtain ⟨n30, l30, h⟩ := v_il h (by decide +kernel : pins 162 46 = some (3, 47, 1, 0, [])) (v := hh) rfl
      obtain ⟨n31, w47, l31, b47, e47, h⟩ := w_iald W h (by decide +kernel : pins 162 47 = some (24, 48, 0, 0, [])) (by decide)
      obtain ⟨n32, w48, l32, e48, h⟩ := u_mul h (by decide +kernel : pins 162 48 = some (10, 49, 2, 0, []))
      obtain ⟨n33, w49, l33, e49, h⟩ := u_add h (by decide +kernel : pins 162 49 = some (10, 50, 0, 0, []))
      obtain ⟨n34, w50, l34, e50, h⟩ := u_i2l h (by decide +kernel : pins 162 50 = some (13, 51, 0, 0, []))
      obtain ⟨n35, w51, l35, e51, h⟩ := u_lmul h (by decide +kernel : pins 162 51 = some (11, 52, 2, 0, []))
      obtain ⟨n36, w52, l36, e52, h⟩ := u_lc h (by decide +kernel : pins 162 52 = some (1, 55, 100, 0, []))
      have i52 : w52.toInt = 100 := by rw [e52]; decide
      obtain ⟨n37, w55, l37, e55, h⟩ := u_ldiv h (by decide +kernel : pins 162 55 = some (11, 56, 3, 0, [])) (by rw [e52]; decide)
      obtain ⟨n38, w56, l38, e56, h⟩ := u_ladd h (by decide +kernel : pins 162 56 = some (11, 57, 0, 0, []))
      obtain ⟨n39, l39, h⟩ := v_ls h (by decide +kernel : pins 162 57 = some (7, 58, 2, 0, []))
      have h : prun n39 162 58 [(2, .long w56), (0, .ref t), (1, .int hh)] [] σ = some x := h
      obtain ⟨n40, l40, h⟩ := v_ll h (by decide +kernel : pins 162 58 = some (4, 59, 2, 0, [])) (v := w56) rfl
      obtain ⟨n41, l41, h⟩ := v_al h (by decide +kernel : pins 162 59 = some (5, 60, 0, 0, [])) (v := t) rfl
      obtain ⟨n42, l42, h⟩ := w_row (k := 37) W h (by decide +kernel : pins 162 60 = some (22, 63, 13, 37, [])) (by decide)
      obtain ⟨n43, l43, h⟩ := v_il h (by decide +kernel : pins 162 63 = some (3, 64, 1, 0, [])) (v := hh) rfl
      obtain ⟨n44, w64, l44, b64, e64, h⟩ := w_lald W h (by decide +kernel : pins 162 64 = some (26, 65, 0, 0, [])) (by decide)
      obtain ⟨n45, w65, l45, e65, h⟩ := u_lcmp h (by decide +kernel : pins 162 65 = some (12, 66, 0, 0, []))
      obtain ⟨n46, l46, ⟨c66, h⟩ | ⟨c66, h⟩⟩ := u_if3 h (by decide +kernel : pins 162 66 = some (16, 69, 3, ((73 : Nat) : Int), []))
      · obtain ⟨n47, l47, h⟩ := v_al h (by decide +kernel : pins 162 73 = some (5, 74, 0, 0, [])) (v := t) rfl
        obtain ⟨n48, l48, h⟩ := w_row (k := 37) W h (by decide +kernel : pins 162 74 = some (22, 77, 13, 37, [])) (by decide)
        obtain ⟨n49, l49, h⟩ := v_il h (by decide +kernel : pins 162 77 = some (3, 78, 1, 0, [])) (v := hh) rfl
        obtain ⟨n50, w78, l50, b78, e78, h⟩ := w_lald W h (by decide +kernel : pins 162 78 = some (26, 79, 0, 0, [])) (by decide)
        have ex := u_ret39 h (by decide +kernel : pins 162 79 = some (39, 80, 0, 0, []))
        subst ex
        refine ⟨rfl, _, rfl, Or.inr ⟨by rw [← e5]; exact c6, by rw [← e14]; omega, w56, by rw [e56, e31, e55, e51, e38, e37, e50, e49, e39, e48, e41, e47, e52], ?_⟩⟩
        exact Or.inr ⟨by rw [← e64]; omega, e78⟩
      · obtain ⟨n52, l52, h⟩ := v_ll h (by decide +kernel : pins 162 69 = some (4, 70, 2, 0, [])) (v := w56) rfl
        obtain ⟨n53, l53, h⟩ := u_go h (by decide +kernel : pins 162 70 = some (20, 73, 0, ((79 : Nat) : Int), []))
        have ex := u_ret39 h (by decide +kernel : pins 162 79 = some (39, 80, 0, 0, []))
        subst ex
        refine ⟨rfl, _, rfl, Or.inr ⟨by rw [← e5]; exact c6, by rw [← e14]; omega, w56, by rw [e56, e31, e55, e51, e38, e37, e50, e49, e39, e48, e41, e47, e52], ?_⟩⟩
        exact Or.inl ⟨by rw [← e64]; omega, rfl⟩
    · obtain ⟨n55, l55, h⟩ := v_al h (by decide +kernel : pins 162 19 = some (5, 20, 0, 0, [])) (v := t) rfl
      obtain ⟨n56, l56, h⟩ := w_row (k := 37) W h (by decide +kernel : pins 162 20 = some (22, 23, 13, 37, [])) (by decide)
      obtain ⟨n57, l57, h⟩ := v_il h (by decide +kernel : pins 162 23 = some (3, 24, 1, 0, [])) (v := hh) rfl
      obtain ⟨n58, w24, l58, b24, e24, h⟩ := w_lald W h (by decide +kernel : pins 162 24 = some (26, 25, 0, 0, [])) (by decide)
      have ex := u_ret39 h (by decide +kernel : pins 162 25 = some (39, 26, 0, 0, []))
      subst ex
      exact ⟨rfl, _, rfl, Or.inl ⟨Or.inr (by rw [← e14]; omega), e24⟩⟩
