theorem addc {x y w : Int32} {c : Int} (e : w = x + y) (hy : y.toInt = c) (h1 : -1000000000 ≤ x.toInt) (h2 : x.toInt ≤ 1000000000) (h3 : -1000000000 ≤ c) (h4 : c ≤ 1000000000) : w.toInt = x.toInt + c := by
  rw [e, n_add (by omega) (by omega), hy]
theorem clampc {x : Int32} {k : Int} (h : x.toInt = k) (h0 : 0 ≤ k) : x.toNatClampNeg = k.toNat := by
  show x.toInt.toNat = _
  rw [h]
theorem take_1 {t n : Nat} {A : Nat → Nat} {b : Int32} {σ : ps} {x : Option Value × ps} (W : Wld t A σ) (h : prun n 168 0 (lv_args 0 [.ref t, .int b]) [] σ = some x) (e_b : b = Int32.ofInt 1) : ∃ w : Int32, x.1 = some (.int w) ∧ SP t A σ x.2 ∧ ((w = 0 ∧ vw t A x.2 = up (vw t A σ) 60 0 (.int 0)) ∨ (0 ≤ (gI (vw t A σ) 59 0).toInt ∧ (gI (vw t A σ) 59 0).toInt < 200 ∧ (gI (vw t A σ) 59 0).toInt + 1 ≤ (gI (vw t A σ) 58 0).toInt ∧ (w = gI (vw t A σ) 57 (gI (vw t A σ) 59 0).toNatClampNeg) ∧ ∃ a : Int32, a.toInt = (gI (vw t A σ) 59 0).toInt + 1 ∧ vw t A x.2 = up (vw t A σ) 59 0 (.int a))) := by
  have i_b : b.toInt = 1 := by rw [e_b]; decide
  have h : prun n 168 0 [(0, .ref t), (1, .int b)] [] σ = some x := h
  obtain ⟨n1, l1, h⟩ := v_al h (by decide +kernel : pins 168 0 = some (5, 1, 0, 0, [])) (v := t) rfl
  obtain ⟨n2, w1, l2, e1, h⟩ := w_fi (k := 59) W h (by decide +kernel : pins 168 1 = some (22, 4, 13, 59, [])) (by decide)
  obtain ⟨n3, l3, h⟩ := v_il h (by decide +kernel : pins 168 4 = some (3, 5, 1, 0, [])) (v := b) rfl
  obtain ⟨n4, w5, l4, e5, h⟩ := u_add h (by decide +kernel : pins 168 5 = some (10, 6, 0, 0, []))
  obtain ⟨n5, l5, h⟩ := v_al h (by decide +kernel : pins 168 6 = some (5, 7, 0, 0, [])) (v := t) rfl
  obtain ⟨n6, w7, l6, e7, h⟩ := w_fi (k := 58) W h (by decide +kernel : pins 168 7 = some (22, 10, 13, 58, [])) (by decide)
  obtain ⟨n7, l7, ⟨c10, h⟩ | ⟨c10, h⟩⟩ := u_ic5 h (by decide +kernel : pins 168 10 = some (17, 13, 5, ((20 : Nat) : Int), []))
  · obtain ⟨n8, w20, l8, ⟨e20, i20⟩, h⟩ := u_ic h (by decide +kernel : pins 168 20 = some (0, 21, 0, 0, [])) (by decide)
    obtain ⟨n9, l9, h⟩ := v_is h (by decide +kernel : pins 168 21 = some (6, 22, 2, 0, []))
    have h : prun n9 168 22 [(2, .int w20), (0, .ref t), (1, .int b)] [] σ = some x := h
    obtain ⟨n10, w22, l10, ⟨e22, i22⟩, h⟩ := u_ic h (by decide +kernel : pins 168 22 = some (0, 23, 0, 0, [])) (by decide)
    obtain ⟨n11, l11, h⟩ := v_is h (by decide +kernel : pins 168 23 = some (6, 24, 3, 0, []))
    have h : prun n11 168 24 [(3, .int w22), (2, .int w20), (0, .ref t), (1, .int b)] [] σ = some x := h
    obtain ⟨n12, l12, h⟩ := v_il h (by decide +kernel : pins 168 24 = some (3, 25, 3, 0, [])) (v := w22) rfl
    obtain ⟨n13, l13, h⟩ := v_il h (by decide +kernel : pins 168 25 = some (3, 26, 1, 0, [])) (v := b) rfl
    obtain ⟨n14, l14, ⟨c26, h⟩ | ⟨c26, h⟩⟩ := u_ic3 h (by decide +kernel : pins 168 26 = some (17, 29, 3, ((52 : Nat) : Int), []))
    · exfalso; omega
    · obtain ⟨n15, l15, h⟩ := v_il h (by decide +kernel : pins 168 29 = some (3, 30, 2, 0, [])) (v := w20) rfl
      obtain ⟨n16, w30, l16, ⟨e30, i30⟩, h⟩ := u_ic h (by decide +kernel : pins 168 30 = some (0, 32, 8, 0, [])) (by decide)
      obtain ⟨n17, w32, l17, e32, h⟩ := u_shl h (by decide +kernel : pins 168 32 = some (10, 33, 8, 0, []))
      obtain ⟨n18, l18, h⟩ := v_al h (by decide +kernel : pins 168 33 = some (5, 34, 0, 0, [])) (v := t) rfl
      obtain ⟨n19, l19, h⟩ := w_row (k := 57) W h (by decide +kernel : pins 168 34 = some (22, 37, 13, 57, [])) (by decide)
      obtain ⟨n20, l20, h⟩ := v_al h (by decide +kernel : pins 168 37 = some (5, 38, 0, 0, [])) (v := t) rfl
      obtain ⟨n21, w38, l21, e38, h⟩ := w_fi (k := 59) W h (by decide +kernel : pins 168 38 = some (22, 41, 13, 59, [])) (by decide)
      obtain ⟨n22, l22, h⟩ := v_il h (by decide +kernel : pins 168 41 = some (3, 42, 3, 0, [])) (v := w22) rfl
      obtain ⟨n23, w42, l23, e42, h⟩ := u_add h (by decide +kernel : pins 168 42 = some (10, 43, 0, 0, []))
      obtain ⟨n24, w43, l24, b43, e43, h⟩ := w_iald W h (by decide +kernel : pins 168 43 = some (24, 44, 0, 0, [])) (by decide)
      obtain ⟨n25, w44, l25, e44, h⟩ := u_or h (by decide +kernel : pins 168 44 = some (10, 45, 6, 0, []))
      obtain ⟨n26, l26, h⟩ := v_is h (by decide +kernel : pins 168 45 = some (6, 46, 2, 0, []))
      have h : prun n26 168 46 [(2, .int w44), (3, .int w22), (0, .ref t), (1, .int b)] [] σ = some x := h
      obtain ⟨n27, w46, l27, e46, h⟩ := u_inc h (by decide +kernel : pins 168 46 = some (9, 49, 3, 1, [])) (v := w22) rfl
      have h : prun n27 168 49 [(3, .int w46), (2, .int w44), (0, .ref t), (1, .int b)] [] σ = some x := h
      have e46 : w46 = Int32.ofInt 1 := by rw [e46, e22]; decide
      have i46 : w46.toInt = 1 := by rw [e46]; decide
      obtain ⟨n28, l28, h⟩ := u_go h (by decide +kernel : pins 168 49 = some (20, 52, 0, ((24 : Nat) : Int), []))
      obtain ⟨n29, l29, h⟩ := v_il h (by decide +kernel : pins 168 24 = some (3, 25, 3, 0, [])) (v := w46) rfl
      obtain ⟨n30, l30, h⟩ := v_il h (by decide +kernel : pins 168 25 = some (3, 26, 1, 0, [])) (v := b) rfl
      obtain ⟨n31, l31, ⟨c26_2, h⟩ | ⟨c26_2, h⟩⟩ := u_ic3 h (by decide +kernel : pins 168 26 = some (17, 29, 3, ((52 : Nat) : Int), []))
      · obtain ⟨n32, l32, h⟩ := v_al h (by decide +kernel : pins 168 52 = some (5, 53, 0, 0, [])) (v := t) rfl
        obtain ⟨n33, l33, h⟩ := v_dup h (by decide +kernel : pins 168 53 = some (34, 54, 0, 0, []))
        obtain ⟨n34, w54, l34, e54, h⟩ := w_fi (k := 59) W h (by decide +kernel : pins 168 54 = some (22, 57, 13, 59, [])) (by decide)
        obtain ⟨n35, l35, h⟩ := v_il h (by decide +kernel : pins 168 57 = some (3, 58, 1, 0, [])) (v := b) rfl
        obtain ⟨n36, w58, l36, e58, h⟩ := u_add h (by decide +kernel : pins 168 58 = some (10, 59, 0, 0, []))
        obtain ⟨n37, s59, l37, S59, u59, h⟩ := w_put (k := 59) W h (by decide +kernel : pins 168 59 = some (23, 62, 13, 59, [])) (by decide)
        obtain ⟨n38, l38, h⟩ := v_il h (by decide +kernel : pins 168 62 = some (3, 63, 2, 0, [])) (v := w44) rfl
        have ex := u_ret38 h (by decide +kernel : pins 168 63 = some (38, 64, 0, 0, []))
        subst ex
        have q1 : w38.toInt = w1.toInt := by rw [e38, e1]
        have b43 : 0 ≤ w42.toInt ∧ w42.toInt < 200 := b43
        have q0 : w42 = w38 := by rw [e42, e22]; exact Int32.add_zero _
        rw [q0] at b43
        have q5 := addc e5 i_b (by omega) (by omega) (by decide) (by decide)
        have q58 : w58.toInt = w1.toInt + 1 := by have := addc e58 i_b (by rw [e54, ← e1]; omega) (by rw [e54, ← e1]; omega) (by decide) (by decide); rw [this, e54, e1]
        have z : w32 = 0 := by rw [e32, e20, e30]; decide
        have z44 : w44 = gI (vw t A σ) 57 w1.toNatClampNeg := by rw [e44, z, e43, q0, e38, e1]; exact Int32.zero_or
        subst e1
        refine ⟨_, rfl, S59, Or.inr ⟨by omega, by omega, by rw [e7] at c10; omega, ?_, w58, q58, u59⟩⟩
        exact z44
      · exfalso; omega
  · obtain ⟨n40, l40, h⟩ := v_al h (by decide +kernel : pins 168 13 = some (5, 14, 0, 0, [])) (v := t) rfl
    obtain ⟨n41, w14, l41, ⟨e14, i14⟩, h⟩ := u_ic h (by decide +kernel : pins 168 14 = some (0, 15, 0, 0, [])) (by decide)
    obtain ⟨n42, s15, l42, S15, u15, h⟩ := w_put (k := 60) W h (by decide +kernel : pins 168 15 = some (23, 18, 13, 60, [])) (by decide)
    obtain ⟨n43, w18, l43, ⟨e18, i18⟩, h⟩ := u_ic h (by decide +kernel : pins 168 18 = some (0, 19, 0, 0, [])) (by decide)
    have ex := u_ret38 h (by decide +kernel : pins 168 19 = some (38, 20, 0, 0, []))
    subst ex
    exact ⟨_, rfl, S15, Or.inl ⟨e18, by rw [u15, e14]; rfl⟩⟩
theorem take_2 {t n : Nat} {A : Nat → Nat} {b : Int32} {σ : ps} {x : Option Value × ps} (W : Wld t A σ) (h : prun n 168 0 (lv_args 0 [.ref t, .int b]) [] σ = some x) (e_b : b = Int32.ofInt 2) : ∃ w : Int32, x.1 = some (.int w) ∧ SP t A σ x.2 ∧ ((w = 0 ∧ vw t A x.2 = up (vw t A σ) 60 0 (.int 0)) ∨ (0 ≤ (gI (vw t A σ) 59 0).toInt ∧ (gI (vw t A σ) 59 0).toInt < 200 ∧ (gI (vw t A σ) 59 0).toInt + 2 ≤ (gI (vw t A σ) 58 0).toInt ∧ (w = (gI (vw t A σ) 57 (gI (vw t A σ) 59 0).toNatClampNeg <<< (8 : Int32)) ||| gI (vw t A σ) 57 ((gI (vw t A σ) 59 0).toInt + 1).toNat) ∧ ∃ a : Int32, a.toInt = (gI (vw t A σ) 59 0).toInt + 2 ∧ vw t A x.2 = up (vw t A σ) 59 0 (.int a))) := by
  have i_b : b.toInt = 2 := by rw [e_b]; decide
  have h : prun n 168 0 [(0, .ref t), (1, .int b)] [] σ = some x := h
  obtain ⟨n1, l1, h⟩ := v_al h (by decide +kernel : pins 168 0 = some (5, 1, 0, 0, [])) (v := t) rfl
  obtain ⟨n2, w1, l2, e1, h⟩ := w_fi (k := 59) W h (by decide +kernel : pins 168 1 = some (22, 4, 13, 59, [])) (by decide)
  obtain ⟨n3, l3, h⟩ := v_il h (by decide +kernel : pins 168 4 = some (3, 5, 1, 0, [])) (v := b) rfl
  obtain ⟨n4, w5, l4, e5, h⟩ := u_add h (by decide +kernel : pins 168 5 = some (10, 6, 0, 0, []))
  obtain ⟨n5, l5, h⟩ := v_al h (by decide +kernel : pins 168 6 = some (5, 7, 0, 0, [])) (v := t) rfl
  obtain ⟨n6, w7, l6, e7, h⟩ := w_fi (k := 58) W h (by decide +kernel : pins 168 7 = some (22, 10, 13, 58, [])) (by decide)
  obtain ⟨n7, l7, ⟨c10, h⟩ | ⟨c10, h⟩⟩ := u_ic5 h (by decide +kernel : pins 168 10 = some (17, 13, 5, ((20 : Nat) : Int), []))
  · obtain ⟨n8, w20, l8, ⟨e20, i20⟩, h⟩ := u_ic h (by decide +kernel : pins 168 20 = some (0, 21, 0, 0, [])) (by decide)
    obtain ⟨n9, l9, h⟩ := v_is h (by decide +kernel : pins 168 21 = some (6, 22, 2, 0, []))
    have h : prun n9 168 22 [(2, .int w20), (0, .ref t), (1, .int b)] [] σ = some x := h
    obtain ⟨n10, w22, l10, ⟨e22, i22⟩, h⟩ := u_ic h (by decide +kernel : pins 168 22 = some (0, 23, 0, 0, [])) (by decide)
    obtain ⟨n11, l11, h⟩ := v_is h (by decide +kernel : pins 168 23 = some (6, 24, 3, 0, []))
    have h : prun n11 168 24 [(3, .int w22), (2, .int w20), (0, .ref t), (1, .int b)] [] σ = some x := h
    obtain ⟨n12, l12, h⟩ := v_il h (by decide +kernel : pins 168 24 = some (3, 25, 3, 0, [])) (v := w22) rfl
    obtain ⟨n13, l13, h⟩ := v_il h (by decide +kernel : pins 168 25 = some (3, 26, 1, 0, [])) (v := b) rfl
    obtain ⟨n14, l14, ⟨c26, h⟩ | ⟨c26, h⟩⟩ := u_ic3 h (by decide +kernel : pins 168 26 = some (17, 29, 3, ((52 : Nat) : Int), []))
    · exfalso; omega
    · obtain ⟨n15, l15, h⟩ := v_il h (by decide +kernel : pins 168 29 = some (3, 30, 2, 0, [])) (v := w20) rfl
      obtain ⟨n16, w30, l16, ⟨e30, i30⟩, h⟩ := u_ic h (by decide +kernel : pins 168 30 = some (0, 32, 8, 0, [])) (by decide)
      obtain ⟨n17, w32, l17, e32, h⟩ := u_shl h (by decide +kernel : pins 168 32 = some (10, 33, 8, 0, []))
      obtain ⟨n18, l18, h⟩ := v_al h (by decide +kernel : pins 168 33 = some (5, 34, 0, 0, [])) (v := t) rfl
      obtain ⟨n19, l19, h⟩ := w_row (k := 57) W h (by decide +kernel : pins 168 34 = some (22, 37, 13, 57, [])) (by decide)
      obtain ⟨n20, l20, h⟩ := v_al h (by decide +kernel : pins 168 37 = some (5, 38, 0, 0, [])) (v := t) rfl
      obtain ⟨n21, w38, l21, e38, h⟩ := w_fi (k := 59) W h (by decide +kernel : pins 168 38 = some (22, 41, 13, 59, [])) (by decide)
      obtain ⟨n22, l22, h⟩ := v_il h (by decide +kernel : pins 168 41 = some (3, 42, 3, 0, [])) (v := w22) rfl
      obtain ⟨n23, w42, l23, e42, h⟩ := u_add h (by decide +kernel : pins 168 42 = some (10, 43, 0, 0, []))
      obtain ⟨n24, w43, l24, b43, e43, h⟩ := w_iald W h (by decide +kernel : pins 168 43 = some (24, 44, 0, 0, [])) (by decide)
      obtain ⟨n25, w44, l25, e44, h⟩ := u_or h (by decide +kernel : pins 168 44 = some (10, 45, 6, 0, []))
      obtain ⟨n26, l26, h⟩ := v_is h (by decide +kernel : pins 168 45 = some (6, 46, 2, 0, []))
      have h : prun n26 168 46 [(2, .int w44), (3, .int w22), (0, .ref t), (1, .int b)] [] σ = some x := h
      obtain ⟨n27, w46, l27, e46, h⟩ := u_inc h (by decide +kernel : pins 168 46 = some (9, 49, 3, 1, [])) (v := w22) rfl
      have h : prun n27 168 49 [(3, .int w46), (2, .int w44), (0, .ref t), (1, .int b)] [] σ = some x := h
      have e46 : w46 = Int32.ofInt 1 := by rw [e46, e22]; decide
      have i46 : w46.toInt = 1 := by rw [e46]; decide
      obtain ⟨n28, l28, h⟩ := u_go h (by decide +kernel : pins 168 49 = some (20, 52, 0, ((24 : Nat) : Int), []))
      obtain ⟨n29, l29, h⟩ := v_il h (by decide +kernel : pins 168 24 = some (3, 25, 3, 0, [])) (v := w46) rfl
      obtain ⟨n30, l30, h⟩ := v_il h (by decide +kernel : pins 168 25 = some (3, 26, 1, 0, [])) (v := b) rfl
      obtain ⟨n31, l31, ⟨c26_2, h⟩ | ⟨c26_2, h⟩⟩ := u_ic3 h (by decide +kernel : pins 168 26 = some (17, 29, 3, ((52 : Nat) : Int), []))
      · exfalso; omega
      · obtain ⟨n32, l32, h⟩ := v_il h (by decide +kernel : pins 168 29 = some (3, 30, 2, 0, [])) (v := w44) rfl
        obtain ⟨n33, w30_2, l33, ⟨e30_2, i30_2⟩, h⟩ := u_ic h (by decide +kernel : pins 168 30 = some (0, 32, 8, 0, [])) (by decide)
        obtain ⟨n34, w32_2, l34, e32_2, h⟩ := u_shl h (by decide +kernel : pins 168 32 = some (10, 33, 8, 0, []))
        obtain ⟨n35, l35, h⟩ := v_al h (by decide +kernel : pins 168 33 = some (5, 34, 0, 0, [])) (v := t) rfl
        obtain ⟨n36, l36, h⟩ := w_row (k := 57) W h (by decide +kernel : pins 168 34 = some (22, 37, 13, 57, [])) (by decide)
        obtain ⟨n37, l37, h⟩ := v_al h (by decide +kernel : pins 168 37 = some (5, 38, 0, 0, [])) (v := t) rfl
        obtain ⟨n38, w38_2, l38, e38_2, h⟩ := w_fi (k := 59) W h (by decide +kernel : pins 168 38 = some (22, 41, 13, 59, [])) (by decide)
        obtain ⟨n39, l39, h⟩ := v_il h (by decide +kernel : pins 168 41 = some (3, 42, 3, 0, [])) (v := w46) rfl
        obtain ⟨n40, w42_2, l40, e42_2, h⟩ := u_add h (by decide +kernel : pins 168 42 = some (10, 43, 0, 0, []))
        obtain ⟨n41, w43_2, l41, b43_2, e43_2, h⟩ := w_iald W h (by decide +kernel : pins 168 43 = some (24, 44, 0, 0, [])) (by decide)
        obtain ⟨n42, w44_2, l42, e44_2, h⟩ := u_or h (by decide +kernel : pins 168 44 = some (10, 45, 6, 0, []))
        obtain ⟨n43, l43, h⟩ := v_is h (by decide +kernel : pins 168 45 = some (6, 46, 2, 0, []))
        have h : prun n43 168 46 [(2, .int w44_2), (3, .int w46), (0, .ref t), (1, .int b)] [] σ = some x := h
        obtain ⟨n44, w46_2, l44, e46_2, h⟩ := u_inc h (by decide +kernel : pins 168 46 = some (9, 49, 3, 1, [])) (v := w46) rfl
        have h : prun n44 168 49 [(3, .int w46_2), (2, .int w44_2), (0, .ref t), (1, .int b)] [] σ = some x := h
        have e46_2 : w46_2 = Int32.ofInt 2 := by rw [e46_2, e46]; decide
        have i46_2 : w46_2.toInt = 2 := by rw [e46_2]; decide
        obtain ⟨n45, l45, h⟩ := u_go h (by decide +kernel : pins 168 49 = some (20, 52, 0, ((24 : Nat) : Int), []))
        obtain ⟨n46, l46, h⟩ := v_il h (by decide +kernel : pins 168 24 = some (3, 25, 3, 0, [])) (v := w46_2) rfl
        obtain ⟨n47, l47, h⟩ := v_il h (by decide +kernel : pins 168 25 = some (3, 26, 1, 0, [])) (v := b) rfl
        obtain ⟨n48, l48, ⟨c26_3, h⟩ | ⟨c26_3, h⟩⟩ := u_ic3 h (by decide +kernel : pins 168 26 = some (17, 29, 3, ((52 : Nat) : Int), []))
        · obtain ⟨n49, l49, h⟩ := v_al h (by decide +kernel : pins 168 52 = some (5, 53, 0, 0, [])) (v := t) rfl
          obtain ⟨n50, l50, h⟩ := v_dup h (by decide +kernel : pins 168 53 = some (34, 54, 0, 0, []))
          obtain ⟨n51, w54, l51, e54, h⟩ := w_fi (k := 59) W h (by decide +kernel : pins 168 54 = some (22, 57, 13, 59, [])) (by decide)
          obtain ⟨n52, l52, h⟩ := v_il h (by decide +kernel : pins 168 57 = some (3, 58, 1, 0, [])) (v := b) rfl
          obtain ⟨n53, w58, l53, e58, h⟩ := u_add h (by decide +kernel : pins 168 58 = some (10, 59, 0, 0, []))
          obtain ⟨n54, s59, l54, S59, u59, h⟩ := w_put (k := 59) W h (by decide +kernel : pins 168 59 = some (23, 62, 13, 59, [])) (by decide)
          obtain ⟨n55, l55, h⟩ := v_il h (by decide +kernel : pins 168 62 = some (3, 63, 2, 0, [])) (v := w44_2) rfl
          have ex := u_ret38 h (by decide +kernel : pins 168 63 = some (38, 64, 0, 0, []))
          subst ex
          have q1 : w38.toInt = w1.toInt := by rw [e38, e1]
          have b43 : 0 ≤ w42.toInt ∧ w42.toInt < 200 := b43
          have q0 : w42 = w38 := by rw [e42, e22]; exact Int32.add_zero _
          rw [q0] at b43
          have q5 := addc e5 i_b (by omega) (by omega) (by decide) (by decide)
          have q58 : w58.toInt = w1.toInt + 2 := by have := addc e58 i_b (by rw [e54, ← e1]; omega) (by rw [e54, ← e1]; omega) (by decide) (by decide); rw [this, e54, e1]
          have z : w32 = 0 := by rw [e32, e20, e30]; decide
          have z44 : w44 = gI (vw t A σ) 57 w1.toNatClampNeg := by rw [e44, z, e43, q0, e38, e1]; exact Int32.zero_or
          have q42_2 : w42_2.toInt = w1.toInt + 1 := by have := addc e42_2 i46 (by rw [e38_2, ← e1]; omega) (by rw [e38_2, ← e1]; omega) (by decide) (by decide); rw [this, e38_2, e1]
          have z44_2 : w44_2 = (w44 <<< (8 : Int32)) ||| gI (vw t A σ) 57 (w1.toInt + 1).toNat := by rw [e44_2, e43_2, clampc q42_2 (by omega), e32_2, e30_2]; rfl
          subst e1
          refine ⟨_, rfl, S59, Or.inr ⟨by omega, by omega, by rw [e7] at c10; omega, ?_, w58, q58, u59⟩⟩
          rw [z44_2, z44]
        · exfalso; omega
  · obtain ⟨n57, l57, h⟩ := v_al h (by decide +kernel : pins 168 13 = some (5, 14, 0, 0, [])) (v := t) rfl
    obtain ⟨n58, w14, l58, ⟨e14, i14⟩, h⟩ := u_ic h (by decide +kernel : pins 168 14 = some (0, 15, 0, 0, [])) (by decide)
    obtain ⟨n59, s15, l59, S15, u15, h⟩ := w_put (k := 60) W h (by decide +kernel : pins 168 15 = some (23, 18, 13, 60, [])) (by decide)
    obtain ⟨n60, w18, l60, ⟨e18, i18⟩, h⟩ := u_ic h (by decide +kernel : pins 168 18 = some (0, 19, 0, 0, [])) (by decide)
    have ex := u_ret38 h (by decide +kernel : pins 168 19 = some (38, 20, 0, 0, []))
    subst ex
    exact ⟨_, rfl, S15, Or.inl ⟨e18, by rw [u15, e14]; rfl⟩⟩
theorem take_4 {t n : Nat} {A : Nat → Nat} {b : Int32} {σ : ps} {x : Option Value × ps} (W : Wld t A σ) (h : prun n 168 0 (lv_args 0 [.ref t, .int b]) [] σ = some x) (e_b : b = Int32.ofInt 4) : ∃ w : Int32, x.1 = some (.int w) ∧ SP t A σ x.2 ∧ ((w = 0 ∧ vw t A x.2 = up (vw t A σ) 60 0 (.int 0)) ∨ (0 ≤ (gI (vw t A σ) 59 0).toInt ∧ (gI (vw t A σ) 59 0).toInt < 200 ∧ (gI (vw t A σ) 59 0).toInt + 4 ≤ (gI (vw t A σ) 58 0).toInt ∧ (∃ v : Int32, w = (v <<< (8 : Int32)) ||| gI (vw t A σ) 57 ((gI (vw t A σ) 59 0).toInt + 3).toNat) ∧ ∃ a : Int32, a.toInt = (gI (vw t A σ) 59 0).toInt + 4 ∧ vw t A x.2 = up (vw t A σ) 59 0 (.int a))) := by
  have i_b : b.toInt = 4 := by rw [e_b]; decide
  have h : prun n 168 0 [(0, .ref t), (1, .int b)] [] σ = some x := h
  obtain ⟨n1, l1, h⟩ := v_al h (by decide +kernel : pins 168 0 = some (5, 1, 0, 0, [])) (v := t) rfl
  obtain ⟨n2, w1, l2, e1, h⟩ := w_fi (k := 59) W h (by decide +kernel : pins 168 1 = some (22, 4, 13, 59, [])) (by decide)
  obtain ⟨n3, l3, h⟩ := v_il h (by decide +kernel : pins 168 4 = some (3, 5, 1, 0, [])) (v := b) rfl
  obtain ⟨n4, w5, l4, e5, h⟩ := u_add h (by decide +kernel : pins 168 5 = some (10, 6, 0, 0, []))
  obtain ⟨n5, l5, h⟩ := v_al h (by decide +kernel : pins 168 6 = some (5, 7, 0, 0, [])) (v := t) rfl
  obtain ⟨n6, w7, l6, e7, h⟩ := w_fi (k := 58) W h (by decide +kernel : pins 168 7 = some (22, 10, 13, 58, [])) (by decide)
  obtain ⟨n7, l7, ⟨c10, h⟩ | ⟨c10, h⟩⟩ := u_ic5 h (by decide +kernel : pins 168 10 = some (17, 13, 5, ((20 : Nat) : Int), []))
  · obtain ⟨n8, w20, l8, ⟨e20, i20⟩, h⟩ := u_ic h (by decide +kernel : pins 168 20 = some (0, 21, 0, 0, [])) (by decide)
    obtain ⟨n9, l9, h⟩ := v_is h (by decide +kernel : pins 168 21 = some (6, 22, 2, 0, []))
    have h : prun n9 168 22 [(2, .int w20), (0, .ref t), (1, .int b)] [] σ = some x := h
    obtain ⟨n10, w22, l10, ⟨e22, i22⟩, h⟩ := u_ic h (by decide +kernel : pins 168 22 = some (0, 23, 0, 0, [])) (by decide)
    obtain ⟨n11, l11, h⟩ := v_is h (by decide +kernel : pins 168 23 = some (6, 24, 3, 0, []))
    have h : prun n11 168 24 [(3, .int w22), (2, .int w20), (0, .ref t), (1, .int b)] [] σ = some x := h
    obtain ⟨n12, l12, h⟩ := v_il h (by decide +kernel : pins 168 24 = some (3, 25, 3, 0, [])) (v := w22) rfl
    obtain ⟨n13, l13, h⟩ := v_il h (by decide +kernel : pins 168 25 = some (3, 26, 1, 0, [])) (v := b) rfl
    obtain ⟨n14, l14, ⟨c26, h⟩ | ⟨c26, h⟩⟩ := u_ic3 h (by decide +kernel : pins 168 26 = some (17, 29, 3, ((52 : Nat) : Int), []))
    · exfalso; omega
    · obtain ⟨n15, l15, h⟩ := v_il h (by decide +kernel : pins 168 29 = some (3, 30, 2, 0, [])) (v := w20) rfl
      obtain ⟨n16, w30, l16, ⟨e30, i30⟩, h⟩ := u_ic h (by decide +kernel : pins 168 30 = some (0, 32, 8, 0, [])) (by decide)
      obtain ⟨n17, w32, l17, e32, h⟩ := u_shl h (by decide +kernel : pins 168 32 = some (10, 33, 8, 0, []))
      obtain ⟨n18, l18, h⟩ := v_al h (by decide +kernel : pins 168 33 = some (5, 34, 0, 0, [])) (v := t) rfl
      obtain ⟨n19, l19, h⟩ := w_row (k := 57) W h (by decide +kernel : pins 168 34 = some (22, 37, 13, 57, [])) (by decide)
      obtain ⟨n20, l20, h⟩ := v_al h (by decide +kernel : pins 168 37 = some (5, 38, 0, 0, [])) (v := t) rfl
      obtain ⟨n21, w38, l21, e38, h⟩ := w_fi (k := 59) W h (by decide +kernel : pins 168 38 = some (22, 41, 13, 59, [])) (by decide)
      obtain ⟨n22, l22, h⟩ := v_il h (by decide +kernel : pins 168 41 = some (3, 42, 3, 0, [])) (v := w22) rfl
      obtain ⟨n23, w42, l23, e42, h⟩ := u_add h (by decide +kernel : pins 168 42 = some (10, 43, 0, 0, []))
      obtain ⟨n24, w43, l24, b43, e43, h⟩ := w_iald W h (by decide +kernel : pins 168 43 = some (24, 44, 0, 0, [])) (by decide)
      obtain ⟨n25, w44, l25, e44, h⟩ := u_or h (by decide +kernel : pins 168 44 = some (10, 45, 6, 0, []))
      obtain ⟨n26, l26, h⟩ := v_is h (by decide +kernel : pins 168 45 = some (6, 46, 2, 0, []))
      have h : prun n26 168 46 [(2, .int w44), (3, .int w22), (0, .ref t), (1, .int b)] [] σ = some x := h
      obtain ⟨n27, w46, l27, e46, h⟩ := u_inc h (by decide +kernel : pins 168 46 = some (9, 49, 3, 1, [])) (v := w22) rfl
      have h : prun n27 168 49 [(3, .int w46), (2, .int w44), (0, .ref t), (1, .int b)] [] σ = some x := h
      have e46 : w46 = Int32.ofInt 1 := by rw [e46, e22]; decide
      have i46 : w46.toInt = 1 := by rw [e46]; decide
      obtain ⟨n28, l28, h⟩ := u_go h (by decide +kernel : pins 168 49 = some (20, 52, 0, ((24 : Nat) : Int), []))
      obtain ⟨n29, l29, h⟩ := v_il h (by decide +kernel : pins 168 24 = some (3, 25, 3, 0, [])) (v := w46) rfl
      obtain ⟨n30, l30, h⟩ := v_il h (by decide +kernel : pins 168 25 = some (3, 26, 1, 0, [])) (v := b) rfl
      obtain ⟨n31, l31, ⟨c26_2, h⟩ | ⟨c26_2, h⟩⟩ := u_ic3 h (by decide +kernel : pins 168 26 = some (17, 29, 3, ((52 : Nat) : Int), []))
      · exfalso; omega
      · obtain ⟨n32, l32, h⟩ := v_il h (by decide +kernel : pins 168 29 = some (3, 30, 2, 0, [])) (v := w44) rfl
        obtain ⟨n33, w30_2, l33, ⟨e30_2, i30_2⟩, h⟩ := u_ic h (by decide +kernel : pins 168 30 = some (0, 32, 8, 0, [])) (by decide)
        obtain ⟨n34, w32_2, l34, e32_2, h⟩ := u_shl h (by decide +kernel : pins 168 32 = some (10, 33, 8, 0, []))
        obtain ⟨n35, l35, h⟩ := v_al h (by decide +kernel : pins 168 33 = some (5, 34, 0, 0, [])) (v := t) rfl
        obtain ⟨n36, l36, h⟩ := w_row (k := 57) W h (by decide +kernel : pins 168 34 = some (22, 37, 13, 57, [])) (by decide)
        obtain ⟨n37, l37, h⟩ := v_al h (by decide +kernel : pins 168 37 = some (5, 38, 0, 0, [])) (v := t) rfl
        obtain ⟨n38, w38_2, l38, e38_2, h⟩ := w_fi (k := 59) W h (by decide +kernel : pins 168 38 = some (22, 41, 13, 59, [])) (by decide)
        obtain ⟨n39, l39, h⟩ := v_il h (by decide +kernel : pins 168 41 = some (3, 42, 3, 0, [])) (v := w46) rfl
        obtain ⟨n40, w42_2, l40, e42_2, h⟩ := u_add h (by decide +kernel : pins 168 42 = some (10, 43, 0, 0, []))
        obtain ⟨n41, w43_2, l41, b43_2, e43_2, h⟩ := w_iald W h (by decide +kernel : pins 168 43 = some (24, 44, 0, 0, [])) (by decide)
        obtain ⟨n42, w44_2, l42, e44_2, h⟩ := u_or h (by decide +kernel : pins 168 44 = some (10, 45, 6, 0, []))
        obtain ⟨n43, l43, h⟩ := v_is h (by decide +kernel : pins 168 45 = some (6, 46, 2, 0, []))
        have h : prun n43 168 46 [(2, .int w44_2), (3, .int w46), (0, .ref t), (1, .int b)] [] σ = some x := h
        obtain ⟨n44, w46_2, l44, e46_2, h⟩ := u_inc h (by decide +kernel : pins 168 46 = some (9, 49, 3, 1, [])) (v := w46) rfl
        have h : prun n44 168 49 [(3, .int w46_2), (2, .int w44_2), (0, .ref t), (1, .int b)] [] σ = some x := h
        have e46_2 : w46_2 = Int32.ofInt 2 := by rw [e46_2, e46]; decide
        have i46_2 : w46_2.toInt = 2 := by rw [e46_2]; decide
        obtain ⟨n45, l45, h⟩ := u_go h (by decide +kernel : pins 168 49 = some (20, 52, 0, ((24 : Nat) : Int), []))
        obtain ⟨n46, l46, h⟩ := v_il h (by decide +kernel : pins 168 24 = some (3, 25, 3, 0, [])) (v := w46_2) rfl
        obtain ⟨n47, l47, h⟩ := v_il h (by decide +kernel : pins 168 25 = some (3, 26, 1, 0, [])) (v := b) rfl
        obtain ⟨n48, l48, ⟨c26_3, h⟩ | ⟨c26_3, h⟩⟩ := u_ic3 h (by decide +kernel : pins 168 26 = some (17, 29, 3, ((52 : Nat) : Int), []))
        · exfalso; omega
        · obtain ⟨n49, l49, h⟩ := v_il h (by decide +kernel : pins 168 29 = some (3, 30, 2, 0, [])) (v := w44_2) rfl
          obtain ⟨n50, w30_3, l50, ⟨e30_3, i30_3⟩, h⟩ := u_ic h (by decide +kernel : pins 168 30 = some (0, 32, 8, 0, [])) (by decide)
          obtain ⟨n51, w32_3, l51, e32_3, h⟩ := u_shl h (by decide +kernel : pins 168 32 = some (10, 33, 8, 0, []))
          obtain ⟨n52, l52, h⟩ := v_al h (by decide +kernel : pins 168 33 = some (5, 34, 0, 0, [])) (v := t) rfl
          obtain ⟨n53, l53, h⟩ := w_row (k := 57) W h (by decide +kernel : pins 168 34 = some (22, 37, 13, 57, [])) (by decide)
          obtain ⟨n54, l54, h⟩ := v_al h (by decide +kernel : pins 168 37 = some (5, 38, 0, 0, [])) (v := t) rfl
          obtain ⟨n55, w38_3, l55, e38_3, h⟩ := w_fi (k := 59) W h (by decide +kernel : pins 168 38 = some (22, 41, 13, 59, [])) (by decide)
          obtain ⟨n56, l56, h⟩ := v_il h (by decide +kernel : pins 168 41 = some (3, 42, 3, 0, [])) (v := w46_2) rfl
          obtain ⟨n57, w42_3, l57, e42_3, h⟩ := u_add h (by decide +kernel : pins 168 42 = some (10, 43, 0, 0, []))
          obtain ⟨n58, w43_3, l58, b43_3, e43_3, h⟩ := w_iald W h (by decide +kernel : pins 168 43 = some (24, 44, 0, 0, [])) (by decide)
          obtain ⟨n59, w44_3, l59, e44_3, h⟩ := u_or h (by decide +kernel : pins 168 44 = some (10, 45, 6, 0, []))
          obtain ⟨n60, l60, h⟩ := v_is h (by decide +kernel : pins 168 45 = some (6, 46, 2, 0, []))
          have h : prun n60 168 46 [(2, .int w44_3), (3, .int w46_2), (0, .ref t), (1, .int b)] [] σ = some x := h
          obtain ⟨n61, w46_3, l61, e46_3, h⟩ := u_inc h (by decide +kernel : pins 168 46 = some (9, 49, 3, 1, [])) (v := w46_2) rfl
          have h : prun n61 168 49 [(3, .int w46_3), (2, .int w44_3), (0, .ref t), (1, .int b)] [] σ = some x := h
          have e46_3 : w46_3 = Int32.ofInt 3 := by rw [e46_3, e46_2]; decide
          have i46_3 : w46_3.toInt = 3 := by rw [e46_3]; decide
          obtain ⟨n62, l62, h⟩ := u_go h (by decide +kernel : pins 168 49 = some (20, 52, 0, ((24 : Nat) : Int), []))
          obtain ⟨n63, l63, h⟩ := v_il h (by decide +kernel : pins 168 24 = some (3, 25, 3, 0, [])) (v := w46_3) rfl
          obtain ⟨n64, l64, h⟩ := v_il h (by decide +kernel : pins 168 25 = some (3, 26, 1, 0, [])) (v := b) rfl
          obtain ⟨n65, l65, ⟨c26_4, h⟩ | ⟨c26_4, h⟩⟩ := u_ic3 h (by decide +kernel : pins 168 26 = some (17, 29, 3, ((52 : Nat) : Int), []))
          · exfalso; omega
          · obtain ⟨n66, l66, h⟩ := v_il h (by decide +kernel : pins 168 29 = some (3, 30, 2, 0, [])) (v := w44_3) rfl
            obtain ⟨n67, w30_4, l67, ⟨e30_4, i30_4⟩, h⟩ := u_ic h (by decide +kernel : pins 168 30 = some (0, 32, 8, 0, [])) (by decide)
            obtain ⟨n68, w32_4, l68, e32_4, h⟩ := u_shl h (by decide +kernel : pins 168 32 = some (10, 33, 8, 0, []))
            obtain ⟨n69, l69, h⟩ := v_al h (by decide +kernel : pins 168 33 = some (5, 34, 0, 0, [])) (v := t) rfl
            obtain ⟨n70, l70, h⟩ := w_row (k := 57) W h (by decide +kernel : pins 168 34 = some (22, 37, 13, 57, [])) (by decide)
            obtain ⟨n71, l71, h⟩ := v_al h (by decide +kernel : pins 168 37 = some (5, 38, 0, 0, [])) (v := t) rfl
            obtain ⟨n72, w38_4, l72, e38_4, h⟩ := w_fi (k := 59) W h (by decide +kernel : pins 168 38 = some (22, 41, 13, 59, [])) (by decide)
            obtain ⟨n73, l73, h⟩ := v_il h (by decide +kernel : pins 168 41 = some (3, 42, 3, 0, [])) (v := w46_3) rfl
            obtain ⟨n74, w42_4, l74, e42_4, h⟩ := u_add h (by decide +kernel : pins 168 42 = some (10, 43, 0, 0, []))
            obtain ⟨n75, w43_4, l75, b43_4, e43_4, h⟩ := w_iald W h (by decide +kernel : pins 168 43 = some (24, 44, 0, 0, [])) (by decide)
            obtain ⟨n76, w44_4, l76, e44_4, h⟩ := u_or h (by decide +kernel : pins 168 44 = some (10, 45, 6, 0, []))
            obtain ⟨n77, l77, h⟩ := v_is h (by decide +kernel : pins 168 45 = some (6, 46, 2, 0, []))
            have h : prun n77 168 46 [(2, .int w44_4), (3, .int w46_3), (0, .ref t), (1, .int b)] [] σ = some x := h
            obtain ⟨n78, w46_4, l78, e46_4, h⟩ := u_inc h (by decide +kernel : pins 168 46 = some (9, 49, 3, 1, [])) (v := w46_3) rfl
            have h : prun n78 168 49 [(3, .int w46_4), (2, .int w44_4), (0, .ref t), (1, .int b)] [] σ = some x := h
            have e46_4 : w46_4 = Int32.ofInt 4 := by rw [e46_4, e46_3]; decide
            have i46_4 : w46_4.toInt = 4 := by rw [e46_4]; decide
            obtain ⟨n79, l79, h⟩ := u_go h (by decide +kernel : pins 168 49 = some (20, 52, 0, ((24 : Nat) : Int), []))
            obtain ⟨n80, l80, h⟩ := v_il h (by decide +kernel : pins 168 24 = some (3, 25, 3, 0, [])) (v := w46_4) rfl
            obtain ⟨n81, l81, h⟩ := v_il h (by decide +kernel : pins 168 25 = some (3, 26, 1, 0, [])) (v := b) rfl
            obtain ⟨n82, l82, ⟨c26_5, h⟩ | ⟨c26_5, h⟩⟩ := u_ic3 h (by decide +kernel : pins 168 26 = some (17, 29, 3, ((52 : Nat) : Int), []))
            · obtain ⟨n83, l83, h⟩ := v_al h (by decide +kernel : pins 168 52 = some (5, 53, 0, 0, [])) (v := t) rfl
              obtain ⟨n84, l84, h⟩ := v_dup h (by decide +kernel : pins 168 53 = some (34, 54, 0, 0, []))
              obtain ⟨n85, w54, l85, e54, h⟩ := w_fi (k := 59) W h (by decide +kernel : pins 168 54 = some (22, 57, 13, 59, [])) (by decide)
              obtain ⟨n86, l86, h⟩ := v_il h (by decide +kernel : pins 168 57 = some (3, 58, 1, 0, [])) (v := b) rfl
              obtain ⟨n87, w58, l87, e58, h⟩ := u_add h (by decide +kernel : pins 168 58 = some (10, 59, 0, 0, []))
              obtain ⟨n88, s59, l88, S59, u59, h⟩ := w_put (k := 59) W h (by decide +kernel : pins 168 59 = some (23, 62, 13, 59, [])) (by decide)
              obtain ⟨n89, l89, h⟩ := v_il h (by decide +kernel : pins 168 62 = some (3, 63, 2, 0, [])) (v := w44_4) rfl
              have ex := u_ret38 h (by decide +kernel : pins 168 63 = some (38, 64, 0, 0, []))
              subst ex
              have q1 : w38.toInt = w1.toInt := by rw [e38, e1]
              have b43 : 0 ≤ w42.toInt ∧ w42.toInt < 200 := b43
              have q0 : w42 = w38 := by rw [e42, e22]; exact Int32.add_zero _
              rw [q0] at b43
              have q5 := addc e5 i_b (by omega) (by omega) (by decide) (by decide)
              have q58 : w58.toInt = w1.toInt + 4 := by have := addc e58 i_b (by rw [e54, ← e1]; omega) (by rw [e54, ← e1]; omega) (by decide) (by decide); rw [this, e54, e1]
              have z : w32 = 0 := by rw [e32, e20, e30]; decide
              have z44 : w44 = gI (vw t A σ) 57 w1.toNatClampNeg := by rw [e44, z, e43, q0, e38, e1]; exact Int32.zero_or
              have q42_2 : w42_2.toInt = w1.toInt + 1 := by have := addc e42_2 i46 (by rw [e38_2, ← e1]; omega) (by rw [e38_2, ← e1]; omega) (by decide) (by decide); rw [this, e38_2, e1]
              have z44_2 : w44_2 = (w44 <<< (8 : Int32)) ||| gI (vw t A σ) 57 (w1.toInt + 1).toNat := by rw [e44_2, e43_2, clampc q42_2 (by omega), e32_2, e30_2]; rfl
              have q42_3 : w42_3.toInt = w1.toInt + 2 := by have := addc e42_3 i46_2 (by rw [e38_3, ← e1]; omega) (by rw [e38_3, ← e1]; omega) (by decide) (by decide); rw [this, e38_3, e1]
              have z44_3 : w44_3 = (w44_2 <<< (8 : Int32)) ||| gI (vw t A σ) 57 (w1.toInt + 2).toNat := by rw [e44_3, e43_3, clampc q42_3 (by omega), e32_3, e30_3]; rfl
              have q42_4 : w42_4.toInt = w1.toInt + 3 := by have := addc e42_4 i46_3 (by rw [e38_4, ← e1]; omega) (by rw [e38_4, ← e1]; omega) (by decide) (by decide); rw [this, e38_4, e1]
              have z44_4 : w44_4 = (w44_3 <<< (8 : Int32)) ||| gI (vw t A σ) 57 (w1.toInt + 3).toNat := by rw [e44_4, e43_4, clampc q42_4 (by omega), e32_4, e30_4]; rfl
              subst e1
              refine ⟨_, rfl, S59, Or.inr ⟨by omega, by omega, by rw [e7] at c10; omega, ?_, w58, q58, u59⟩⟩
              exact ⟨_, z44_4⟩
            · exfalso; omega
  · obtain ⟨n91, l91, h⟩ := v_al h (by decide +kernel : pins 168 13 = some (5, 14, 0, 0, [])) (v := t) rfl
    obtain ⟨n92, w14, l92, ⟨e14, i14⟩, h⟩ := u_ic h (by decide +kernel : pins 168 14 = some (0, 15, 0, 0, [])) (by decide)
    obtain ⟨n93, s15, l93, S15, u15, h⟩ := w_put (k := 60) W h (by decide +kernel : pins 168 15 = some (23, 18, 13, 60, [])) (by decide)
    obtain ⟨n94, w18, l94, ⟨e18, i18⟩, h⟩ := u_ic h (by decide +kernel : pins 168 18 = some (0, 19, 0, 0, [])) (by decide)
    have ex := u_ret38 h (by decide +kernel : pins 168 19 = some (38, 20, 0, 0, []))
    subst ex
    exact ⟨_, rfl, S15, Or.inl ⟨e18, by rw [u15, e14]; rfl⟩⟩
theorem isSign_ {t n : Nat} {A : Nat → Nat} {c : Int32} {σ : ps} {x : Option Value × ps} (W : Wld t A σ) (h : prun n 139 0 (lv_args 0 [.int c]) [] σ = some x) : x.2 = σ ∧ ∃ w : Int32, x.1 = some (.int w) ∧ (w = 0 ∨ (w = 1 ∧ ¬ c.toInt = 40)) := by
  have h : prun n 139 0 [(0, .int c)] [] σ = some x := h
  obtain ⟨n1, l1, h⟩ := v_il h (by decide +kernel : pins 139 0 = some (3, 1, 0, 0, [])) (v := c) rfl
  obtain ⟨n2, w1, l2, ⟨e1, i1⟩, h⟩ := u_ic h (by decide +kernel : pins 139 1 = some (0, 3, 65, 0, [])) (by decide)
  obtain ⟨n3, l3, ⟨c3, h⟩ | ⟨c3, h⟩⟩ := u_ic2 h (by decide +kernel : pins 139 3 = some (17, 6, 2, ((12 : Nat) : Int), []))
  · obtain ⟨n4, l4, h⟩ := v_il h (by decide +kernel : pins 139 12 = some (3, 13, 0, 0, [])) (v := c) rfl
    obtain ⟨n5, w13, l5, ⟨e13, i13⟩, h⟩ := u_ic h (by decide +kernel : pins 139 13 = some (0, 15, 97, 0, [])) (by decide)
    obtain ⟨n6, l6, ⟨c15, h⟩ | ⟨c15, h⟩⟩ := u_ic2 h (by decide +kernel : pins 139 15 = some (17, 18, 2, ((24 : Nat) : Int), []))
    · obtain ⟨n7, l7, h⟩ := v_il h (by decide +kernel : pins 139 24 = some (3, 25, 0, 0, [])) (v := c) rfl
      obtain ⟨n8, w25, l8, ⟨e25, i25⟩, h⟩ := u_ic h (by decide +kernel : pins 139 25 = some (0, 27, 48, 0, [])) (by decide)
      obtain ⟨n9, l9, ⟨c27, h⟩ | ⟨c27, h⟩⟩ := u_ic2 h (by decide +kernel : pins 139 27 = some (17, 30, 2, ((36 : Nat) : Int), []))
      · obtain ⟨n10, l10, h⟩ := v_il h (by decide +kernel : pins 139 36 = some (3, 37, 0, 0, [])) (v := c) rfl
        obtain ⟨n11, w37, l11, ⟨e37, i37⟩, h⟩ := u_ic h (by decide +kernel : pins 139 37 = some (0, 39, 45, 0, [])) (by decide)
        obtain ⟨n12, l12, ⟨c39, h⟩ | ⟨c39, h⟩⟩ := u_ic1 h (by decide +kernel : pins 139 39 = some (17, 42, 1, ((46 : Nat) : Int), []))
        · obtain ⟨n13, w46, l13, ⟨e46, i46⟩, h⟩ := u_ic h (by decide +kernel : pins 139 46 = some (0, 47, 0, 0, [])) (by decide)
          have ex := u_ret38 h (by decide +kernel : pins 139 47 = some (38, 48, 0, 0, []))
          subst ex
          exact ⟨rfl, _, rfl, Or.inl e46⟩
        · obtain ⟨n15, w42, l15, ⟨e42, i42⟩, h⟩ := u_ic h (by decide +kernel : pins 139 42 = some (0, 43, 1, 0, [])) (by decide)
          obtain ⟨n16, l16, h⟩ := u_go h (by decide +kernel : pins 139 43 = some (20, 46, 0, ((47 : Nat) : Int), []))
          have ex := u_ret38 h (by decide +kernel : pins 139 47 = some (38, 48, 0, 0, []))
          subst ex
          exact ⟨rfl, _, rfl, Or.inr ⟨e42, by omega⟩⟩
      · obtain ⟨n18, l18, h⟩ := v_il h (by decide +kernel : pins 139 30 = some (3, 31, 0, 0, [])) (v := c) rfl
        obtain ⟨n19, w31, l19, ⟨e31, i31⟩, h⟩ := u_ic h (by decide +kernel : pins 139 31 = some (0, 33, 57, 0, [])) (by decide)
        obtain ⟨n20, l20, ⟨c33, h⟩ | ⟨c33, h⟩⟩ := u_ic5 h (by decide +kernel : pins 139 33 = some (17, 36, 5, ((42 : Nat) : Int), []))
        · obtain ⟨n21, w42, l21, ⟨e42, i42⟩, h⟩ := u_ic h (by decide +kernel : pins 139 42 = some (0, 43, 1, 0, [])) (by decide)
          obtain ⟨n22, l22, h⟩ := u_go h (by decide +kernel : pins 139 43 = some (20, 46, 0, ((47 : Nat) : Int), []))
          have ex := u_ret38 h (by decide +kernel : pins 139 47 = some (38, 48, 0, 0, []))
          subst ex
          exact ⟨rfl, _, rfl, Or.inr ⟨e42, by omega⟩⟩
        · obtain ⟨n24, l24, h⟩ := v_il h (by decide +kernel : pins 139 36 = some (3, 37, 0, 0, [])) (v := c) rfl
          obtain ⟨n25, w37, l25, ⟨e37, i37⟩, h⟩ := u_ic h (by decide +kernel : pins 139 37 = some (0, 39, 45, 0, [])) (by decide)
          obtain ⟨n26, l26, ⟨c39, h⟩ | ⟨c39, h⟩⟩ := u_ic1 h (by decide +kernel : pins 139 39 = some (17, 42, 1, ((46 : Nat) : Int), []))
          · obtain ⟨n27, w46, l27, ⟨e46, i46⟩, h⟩ := u_ic h (by decide +kernel : pins 139 46 = some (0, 47, 0, 0, [])) (by decide)
            have ex := u_ret38 h (by decide +kernel : pins 139 47 = some (38, 48, 0, 0, []))
            subst ex
            exact ⟨rfl, _, rfl, Or.inl e46⟩
          · obtain ⟨n29, w42, l29, ⟨e42, i42⟩, h⟩ := u_ic h (by decide +kernel : pins 139 42 = some (0, 43, 1, 0, [])) (by decide)
            obtain ⟨n30, l30, h⟩ := u_go h (by decide +kernel : pins 139 43 = some (20, 46, 0, ((47 : Nat) : Int), []))
            have ex := u_ret38 h (by decide +kernel : pins 139 47 = some (38, 48, 0, 0, []))
            subst ex
            exact ⟨rfl, _, rfl, Or.inr ⟨e42, by omega⟩⟩
    · obtain ⟨n32, l32, h⟩ := v_il h (by decide +kernel : pins 139 18 = some (3, 19, 0, 0, [])) (v := c) rfl
      obtain ⟨n33, w19, l33, ⟨e19, i19⟩, h⟩ := u_ic h (by decide +kernel : pins 139 19 = some (0, 21, 122, 0, [])) (by decide)
      obtain ⟨n34, l34, ⟨c21, h⟩ | ⟨c21, h⟩⟩ := u_ic5 h (by decide +kernel : pins 139 21 = some (17, 24, 5, ((42 : Nat) : Int), []))
      · obtain ⟨n35, w42, l35, ⟨e42, i42⟩, h⟩ := u_ic h (by decide +kernel : pins 139 42 = some (0, 43, 1, 0, [])) (by decide)
        obtain ⟨n36, l36, h⟩ := u_go h (by decide +kernel : pins 139 43 = some (20, 46, 0, ((47 : Nat) : Int), []))
        have ex := u_ret38 h (by decide +kernel : pins 139 47 = some (38, 48, 0, 0, []))
        subst ex
        exact ⟨rfl, _, rfl, Or.inr ⟨e42, by omega⟩⟩
      · obtain ⟨n38, l38, h⟩ := v_il h (by decide +kernel : pins 139 24 = some (3, 25, 0, 0, [])) (v := c) rfl
        obtain ⟨n39, w25, l39, ⟨e25, i25⟩, h⟩ := u_ic h (by decide +kernel : pins 139 25 = some (0, 27, 48, 0, [])) (by decide)
        obtain ⟨n40, l40, ⟨c27, h⟩ | ⟨c27, h⟩⟩ := u_ic2 h (by decide +kernel : pins 139 27 = some (17, 30, 2, ((36 : Nat) : Int), []))
        · obtain ⟨n41, l41, h⟩ := v_il h (by decide +kernel : pins 139 36 = some (3, 37, 0, 0, [])) (v := c) rfl
          obtain ⟨n42, w37, l42, ⟨e37, i37⟩, h⟩ := u_ic h (by decide +kernel : pins 139 37 = some (0, 39, 45, 0, [])) (by decide)
          obtain ⟨n43, l43, ⟨c39, h⟩ | ⟨c39, h⟩⟩ := u_ic1 h (by decide +kernel : pins 139 39 = some (17, 42, 1, ((46 : Nat) : Int), []))
          · obtain ⟨n44, w46, l44, ⟨e46, i46⟩, h⟩ := u_ic h (by decide +kernel : pins 139 46 = some (0, 47, 0, 0, [])) (by decide)
            have ex := u_ret38 h (by decide +kernel : pins 139 47 = some (38, 48, 0, 0, []))
            subst ex
            exact ⟨rfl, _, rfl, Or.inl e46⟩
          · obtain ⟨n46, w42, l46, ⟨e42, i42⟩, h⟩ := u_ic h (by decide +kernel : pins 139 42 = some (0, 43, 1, 0, [])) (by decide)
            obtain ⟨n47, l47, h⟩ := u_go h (by decide +kernel : pins 139 43 = some (20, 46, 0, ((47 : Nat) : Int), []))
            have ex := u_ret38 h (by decide +kernel : pins 139 47 = some (38, 48, 0, 0, []))
            subst ex
            exact ⟨rfl, _, rfl, Or.inr ⟨e42, by omega⟩⟩
        · obtain ⟨n49, l49, h⟩ := v_il h (by decide +kernel : pins 139 30 = some (3, 31, 0, 0, [])) (v := c) rfl
          obtain ⟨n50, w31, l50, ⟨e31, i31⟩, h⟩ := u_ic h (by decide +kernel : pins 139 31 = some (0, 33, 57, 0, [])) (by decide)
          obtain ⟨n51, l51, ⟨c33, h⟩ | ⟨c33, h⟩⟩ := u_ic5 h (by decide +kernel : pins 139 33 = some (17, 36, 5, ((42 : Nat) : Int), []))
          · obtain ⟨n52, w42, l52, ⟨e42, i42⟩, h⟩ := u_ic h (by decide +kernel : pins 139 42 = some (0, 43, 1, 0, [])) (by decide)
            obtain ⟨n53, l53, h⟩ := u_go h (by decide +kernel : pins 139 43 = some (20, 46, 0, ((47 : Nat) : Int), []))
            have ex := u_ret38 h (by decide +kernel : pins 139 47 = some (38, 48, 0, 0, []))
            subst ex
            exact ⟨rfl, _, rfl, Or.inr ⟨e42, by omega⟩⟩
          · obtain ⟨n55, l55, h⟩ := v_il h (by decide +kernel : pins 139 36 = some (3, 37, 0, 0, [])) (v := c) rfl
            obtain ⟨n56, w37, l56, ⟨e37, i37⟩, h⟩ := u_ic h (by decide +kernel : pins 139 37 = some (0, 39, 45, 0, [])) (by decide)
            obtain ⟨n57, l57, ⟨c39, h⟩ | ⟨c39, h⟩⟩ := u_ic1 h (by decide +kernel : pins 139 39 = some (17, 42, 1, ((46 : Nat) : Int), []))
            · obtain ⟨n58, w46, l58, ⟨e46, i46⟩, h⟩ := u_ic h (by decide +kernel : pins 139 46 = some (0, 47, 0, 0, [])) (by decide)
              have ex := u_ret38 h (by decide +kernel : pins 139 47 = some (38, 48, 0, 0, []))
              subst ex
              exact ⟨rfl, _, rfl, Or.inl e46⟩
            · obtain ⟨n60, w42, l60, ⟨e42, i42⟩, h⟩ := u_ic h (by decide +kernel : pins 139 42 = some (0, 43, 1, 0, [])) (by decide)
              obtain ⟨n61, l61, h⟩ := u_go h (by decide +kernel : pins 139 43 = some (20, 46, 0, ((47 : Nat) : Int), []))
              have ex := u_ret38 h (by decide +kernel : pins 139 47 = some (38, 48, 0, 0, []))
              subst ex
              exact ⟨rfl, _, rfl, Or.inr ⟨e42, by omega⟩⟩
  · obtain ⟨n63, l63, h⟩ := v_il h (by decide +kernel : pins 139 6 = some (3, 7, 0, 0, [])) (v := c) rfl
    obtain ⟨n64, w7, l64, ⟨e7, i7⟩, h⟩ := u_ic h (by decide +kernel : pins 139 7 = some (0, 9, 90, 0, [])) (by decide)
    obtain ⟨n65, l65, ⟨c9, h⟩ | ⟨c9, h⟩⟩ := u_ic5 h (by decide +kernel : pins 139 9 = some (17, 12, 5, ((42 : Nat) : Int), []))
    · obtain ⟨n66, w42, l66, ⟨e42, i42⟩, h⟩ := u_ic h (by decide +kernel : pins 139 42 = some (0, 43, 1, 0, [])) (by decide)
      obtain ⟨n67, l67, h⟩ := u_go h (by decide +kernel : pins 139 43 = some (20, 46, 0, ((47 : Nat) : Int), []))
      have ex := u_ret38 h (by decide +kernel : pins 139 47 = some (38, 48, 0, 0, []))
      subst ex
      exact ⟨rfl, _, rfl, Or.inr ⟨e42, by omega⟩⟩
    · obtain ⟨n69, l69, h⟩ := v_il h (by decide +kernel : pins 139 12 = some (3, 13, 0, 0, [])) (v := c) rfl
      obtain ⟨n70, w13, l70, ⟨e13, i13⟩, h⟩ := u_ic h (by decide +kernel : pins 139 13 = some (0, 15, 97, 0, [])) (by decide)
      obtain ⟨n71, l71, ⟨c15, h⟩ | ⟨c15, h⟩⟩ := u_ic2 h (by decide +kernel : pins 139 15 = some (17, 18, 2, ((24 : Nat) : Int), []))
      · obtain ⟨n72, l72, h⟩ := v_il h (by decide +kernel : pins 139 24 = some (3, 25, 0, 0, [])) (v := c) rfl
        obtain ⟨n73, w25, l73, ⟨e25, i25⟩, h⟩ := u_ic h (by decide +kernel : pins 139 25 = some (0, 27, 48, 0, [])) (by decide)
        obtain ⟨n74, l74, ⟨c27, h⟩ | ⟨c27, h⟩⟩ := u_ic2 h (by decide +kernel : pins 139 27 = some (17, 30, 2, ((36 : Nat) : Int), []))
        · obtain ⟨n75, l75, h⟩ := v_il h (by decide +kernel : pins 139 36 = some (3, 37, 0, 0, [])) (v := c) rfl
          obtain ⟨n76, w37, l76, ⟨e37, i37⟩, h⟩ := u_ic h (by decide +kernel : pins 139 37 = some (0, 39, 45, 0, [])) (by decide)
          obtain ⟨n77, l77, ⟨c39, h⟩ | ⟨c39, h⟩⟩ := u_ic1 h (by decide +kernel : pins 139 39 = some (17, 42, 1, ((46 : Nat) : Int), []))
          · obtain ⟨n78, w46, l78, ⟨e46, i46⟩, h⟩ := u_ic h (by decide +kernel : pins 139 46 = some (0, 47, 0, 0, [])) (by decide)
            have ex := u_ret38 h (by decide +kernel : pins 139 47 = some (38, 48, 0, 0, []))
            subst ex
            exact ⟨rfl, _, rfl, Or.inl e46⟩
          · obtain ⟨n80, w42, l80, ⟨e42, i42⟩, h⟩ := u_ic h (by decide +kernel : pins 139 42 = some (0, 43, 1, 0, [])) (by decide)
            obtain ⟨n81, l81, h⟩ := u_go h (by decide +kernel : pins 139 43 = some (20, 46, 0, ((47 : Nat) : Int), []))
            have ex := u_ret38 h (by decide +kernel : pins 139 47 = some (38, 48, 0, 0, []))
            subst ex
            exact ⟨rfl, _, rfl, Or.inr ⟨e42, by omega⟩⟩
        · obtain ⟨n83, l83, h⟩ := v_il h (by decide +kernel : pins 139 30 = some (3, 31, 0, 0, [])) (v := c) rfl
          obtain ⟨n84, w31, l84, ⟨e31, i31⟩, h⟩ := u_ic h (by decide +kernel : pins 139 31 = some (0, 33, 57, 0, [])) (by decide)
          obtain ⟨n85, l85, ⟨c33, h⟩ | ⟨c33, h⟩⟩ := u_ic5 h (by decide +kernel : pins 139 33 = some (17, 36, 5, ((42 : Nat) : Int), []))
          · obtain ⟨n86, w42, l86, ⟨e42, i42⟩, h⟩ := u_ic h (by decide +kernel : pins 139 42 = some (0, 43, 1, 0, [])) (by decide)
            obtain ⟨n87, l87, h⟩ := u_go h (by decide +kernel : pins 139 43 = some (20, 46, 0, ((47 : Nat) : Int), []))
            have ex := u_ret38 h (by decide +kernel : pins 139 47 = some (38, 48, 0, 0, []))
            subst ex
            exact ⟨rfl, _, rfl, Or.inr ⟨e42, by omega⟩⟩
          · obtain ⟨n89, l89, h⟩ := v_il h (by decide +kernel : pins 139 36 = some (3, 37, 0, 0, [])) (v := c) rfl
            obtain ⟨n90, w37, l90, ⟨e37, i37⟩, h⟩ := u_ic h (by decide +kernel : pins 139 37 = some (0, 39, 45, 0, [])) (by decide)
            obtain ⟨n91, l91, ⟨c39, h⟩ | ⟨c39, h⟩⟩ := u_ic1 h (by decide +kernel : pins 139 39 = some (17, 42, 1, ((46 : Nat) : Int), []))
            · obtain ⟨n92, w46, l92, ⟨e46, i46⟩, h⟩ := u_ic h (by decide +kernel : pins 139 46 = some (0, 47, 0, 0, [])) (by decide)
              have ex := u_ret38 h (by decide +kernel : pins 139 47 = some (38, 48, 0, 0, []))
              subst ex
              exact ⟨rfl, _, rfl, Or.inl e46⟩
            · obtain ⟨n94, w42, l94, ⟨e42, i42⟩, h⟩ := u_ic h (by decide +kernel : pins 139 42 = some (0, 43, 1, 0, [])) (by decide)
              obtain ⟨n95, l95, h⟩ := u_go h (by decide +kernel : pins 139 43 = some (20, 46, 0, ((47 : Nat) : Int), []))
              have ex := u_ret38 h (by decide +kernel : pins 139 47 = some (38, 48, 0, 0, []))
              subst ex
              exact ⟨rfl, _, rfl, Or.inr ⟨e42, by omega⟩⟩
      · obtain ⟨n97, l97, h⟩ := v_il h (by decide +kernel : pins 139 18 = some (3, 19, 0, 0, [])) (v := c) rfl
        obtain ⟨n98, w19, l98, ⟨e19, i19⟩, h⟩ := u_ic h (by decide +kernel : pins 139 19 = some (0, 21, 122, 0, [])) (by decide)
        obtain ⟨n99, l99, ⟨c21, h⟩ | ⟨c21, h⟩⟩ := u_ic5 h (by decide +kernel : pins 139 21 = some (17, 24, 5, ((42 : Nat) : Int), []))
        · obtain ⟨n100, w42, l100, ⟨e42, i42⟩, h⟩ := u_ic h (by decide +kernel : pins 139 42 = some (0, 43, 1, 0, [])) (by decide)
          obtain ⟨n101, l101, h⟩ := u_go h (by decide +kernel : pins 139 43 = some (20, 46, 0, ((47 : Nat) : Int), []))
          have ex := u_ret38 h (by decide +kernel : pins 139 47 = some (38, 48, 0, 0, []))
          subst ex
          exact ⟨rfl, _, rfl, Or.inr ⟨e42, by omega⟩⟩
        · obtain ⟨n103, l103, h⟩ := v_il h (by decide +kernel : pins 139 24 = some (3, 25, 0, 0, [])) (v := c) rfl
          obtain ⟨n104, w25, l104, ⟨e25, i25⟩, h⟩ := u_ic h (by decide +kernel : pins 139 25 = some (0, 27, 48, 0, [])) (by decide)
          obtain ⟨n105, l105, ⟨c27, h⟩ | ⟨c27, h⟩⟩ := u_ic2 h (by decide +kernel : pins 139 27 = some (17, 30, 2, ((36 : Nat) : Int), []))
          · obtain ⟨n106, l106, h⟩ := v_il h (by decide +kernel : pins 139 36 = some (3, 37, 0, 0, [])) (v := c) rfl
            obtain ⟨n107, w37, l107, ⟨e37, i37⟩, h⟩ := u_ic h (by decide +kernel : pins 139 37 = some (0, 39, 45, 0, [])) (by decide)
            obtain ⟨n108, l108, ⟨c39, h⟩ | ⟨c39, h⟩⟩ := u_ic1 h (by decide +kernel : pins 139 39 = some (17, 42, 1, ((46 : Nat) : Int), []))
            · obtain ⟨n109, w46, l109, ⟨e46, i46⟩, h⟩ := u_ic h (by decide +kernel : pins 139 46 = some (0, 47, 0, 0, [])) (by decide)
              have ex := u_ret38 h (by decide +kernel : pins 139 47 = some (38, 48, 0, 0, []))
              subst ex
              exact ⟨rfl, _, rfl, Or.inl e46⟩
            · obtain ⟨n111, w42, l111, ⟨e42, i42⟩, h⟩ := u_ic h (by decide +kernel : pins 139 42 = some (0, 43, 1, 0, [])) (by decide)
              obtain ⟨n112, l112, h⟩ := u_go h (by decide +kernel : pins 139 43 = some (20, 46, 0, ((47 : Nat) : Int), []))
              have ex := u_ret38 h (by decide +kernel : pins 139 47 = some (38, 48, 0, 0, []))
              subst ex
              exact ⟨rfl, _, rfl, Or.inr ⟨e42, by omega⟩⟩
          · obtain ⟨n114, l114, h⟩ := v_il h (by decide +kernel : pins 139 30 = some (3, 31, 0, 0, [])) (v := c) rfl
            obtain ⟨n115, w31, l115, ⟨e31, i31⟩, h⟩ := u_ic h (by decide +kernel : pins 139 31 = some (0, 33, 57, 0, [])) (by decide)
            obtain ⟨n116, l116, ⟨c33, h⟩ | ⟨c33, h⟩⟩ := u_ic5 h (by decide +kernel : pins 139 33 = some (17, 36, 5, ((42 : Nat) : Int), []))
            · obtain ⟨n117, w42, l117, ⟨e42, i42⟩, h⟩ := u_ic h (by decide +kernel : pins 139 42 = some (0, 43, 1, 0, [])) (by decide)
              obtain ⟨n118, l118, h⟩ := u_go h (by decide +kernel : pins 139 43 = some (20, 46, 0, ((47 : Nat) : Int), []))
              have ex := u_ret38 h (by decide +kernel : pins 139 47 = some (38, 48, 0, 0, []))
              subst ex
              exact ⟨rfl, _, rfl, Or.inr ⟨e42, by omega⟩⟩
            · obtain ⟨n120, l120, h⟩ := v_il h (by decide +kernel : pins 139 36 = some (3, 37, 0, 0, [])) (v := c) rfl
              obtain ⟨n121, w37, l121, ⟨e37, i37⟩, h⟩ := u_ic h (by decide +kernel : pins 139 37 = some (0, 39, 45, 0, [])) (by decide)
              obtain ⟨n122, l122, ⟨c39, h⟩ | ⟨c39, h⟩⟩ := u_ic1 h (by decide +kernel : pins 139 39 = some (17, 42, 1, ((46 : Nat) : Int), []))
              · obtain ⟨n123, w46, l123, ⟨e46, i46⟩, h⟩ := u_ic h (by decide +kernel : pins 139 46 = some (0, 47, 0, 0, [])) (by decide)
                have ex := u_ret38 h (by decide +kernel : pins 139 47 = some (38, 48, 0, 0, []))
                subst ex
                exact ⟨rfl, _, rfl, Or.inl e46⟩
              · obtain ⟨n125, w42, l125, ⟨e42, i42⟩, h⟩ := u_ic h (by decide +kernel : pins 139 42 = some (0, 43, 1, 0, [])) (by decide)
                obtain ⟨n126, l126, h⟩ := u_go h (by decide +kernel : pins 139 43 = some (20, 46, 0, ((47 : Nat) : Int), []))
                have ex := u_ret38 h (by decide +kernel : pins 139 47 = some (38, 48, 0, 0, []))
                subst ex
                exact ⟨rfl, _, rfl, Or.inr ⟨e42, by omega⟩⟩
