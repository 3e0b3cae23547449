/-- the rows' numbers that acts rests on -/
def TyV (V : Nat → Nat → Value) : Prop := (∀ h : Nat, h < 8 → 0 ≤ (gI V 31 h).toInt ∧ (gI V 31 h).toInt ≤ 4) ∧ (∀ h : Nat, h < 8 → 0 ≤ (gI V 32 h).toInt ∧ (gI V 32 h).toInt ≤ 24) ∧ ∀ q : Nat, q < 192 → 0 ≤ (gI V 38 q).toInt ∧ (gI V 38 q).toInt ≤ 1
/-- what acts does -/
def ActE (V V' : Nat → Nat → Value) : Prop := ∃ h : Nat, h < 8 ∧ (
  ((gL V 14 h).toInt ≤ (gL V 0 0).toInt ∧ Ad1 V V' h) ∨
  ((gL V 18 h).toInt ≤ (gL V 0 0).toInt ∧ Nm1 V V' h) ∨
  (∃ q : Nat, 4 * h ≤ q ∧ q < 4 * h + 4 ∧ 0 < (gI V 26 q).toInt ∧ (gL V 27 q).toInt ≤ (gL V 0 0).toInt ∧ Ask3 V V' q) ∨
  (∃ r : Nat, (r : Int) < (gI V 31 h).toInt ∧ (gL V 30 (4 * h + r)).toInt ≤ (gL V 0 0).toInt ∧ Rp1 V V' h (r : Int)) ∨
  (∃ k : Nat, 24 * h ≤ k ∧ (k : Int) < 24 * (h : Int) + (gI V 32 h).toInt ∧ (∃ d : Int64, eDue V k d ∧ d.toInt ≤ (gL V 0 0).toInt) ∧ En1 V V' h k))
def ActR (V V' : Nat → Nat → Value) (r : Option Value) : Prop := r = some (.int 1) ∧ ActE V V'
theorem pc_ac_q {t : Nat} {A : Nat → Nat} {hh : Int32} (hh0 : 0 ≤ hh.toInt ∧ hh.toInt ≤ 7) : ∀ (n : Nat) (c : Int32) (σ : ps) (x : Option Value × ps), Wld t A σ → ((0 ≤ c.toInt ∧ 4 * hh.toInt ≤ c.toInt) ∧ (0 ≤ (gI (vw t A σ) 46 0).toInt ∧ (gI (vw t A σ) 46 0).toInt < 800) ∧ (0 ≤ (gI (vw t A σ) 47 0).toInt ∧ (gI (vw t A σ) 47 0).toInt ≤ 1000) ∧ TyV (vw t A σ)) → prun n 164 66 [(2, .int c), (1, .int hh), (0, .ref t)] [] σ = some x → (x.1 = some (.int 1) ∧ SP t A σ x.2 ∧ ActE (vw t A σ) (vw t A x.2)) ∨ ∃ (m : Nat) (c2 : Int32), m ≤ n ∧ prun m 164 111 [(2, .int c2), (1, .int hh), (0, .ref t)] [] σ = some x := by
  intro n
  induction n using Nat.strongRecOn with
  | ind n ih =>
    intro c σ x W I h
    obtain ⟨I1, I2, I3, I4⟩ := I
    obtain ⟨n1, l1, h⟩ := v_il h (by decide +kernel : pins 164 66 = some (3, 67, 2, 0, [])) (v := c) rfl
    obtain ⟨n2, w67, l2, ⟨e67, i67⟩, h⟩ := u_ic h (by decide +kernel : pins 164 67 = some (0, 68, 4, 0, [])) (by decide)
    obtain ⟨n3, l3, h⟩ := v_il h (by decide +kernel : pins 164 68 = some (3, 69, 1, 0, [])) (v := hh) rfl
    obtain ⟨n4, w69, l4, e69, h⟩ := u_mul h (by decide +kernel : pins 164 69 = some (10, 70, 2, 0, []))
    obtain ⟨n5, w70, l5, ⟨e70, i70⟩, h⟩ := u_ic h (by decide +kernel : pins 164 70 = some (0, 71, 4, 0, [])) (by decide)
    obtain ⟨n6, w71, l6, e71, h⟩ := u_add h (by decide +kernel : pins 164 71 = some (10, 72, 0, 0, []))
    obtain ⟨n7, l7, ⟨c72, h⟩ | ⟨c72, h⟩⟩ := u_ic3 h (by decide +kernel : pins 164 72 = some (17, 75, 3, ((111 : Nat) : Int), []))
    · have h := prun_lv h (lv' := [(2, .int c), (1, .int hh), (0, .ref t)]) (lvLe.cons (lvLe.cons (lvLe.cons lvLe.nil rfl) rfl) rfl) (by decide : ([2, 1, 0] : List Nat).Nodup) (by decide : ([2, 1, 0] : List Nat).Nodup)
      exact Or.inr ⟨_, _, by omega, h⟩
    · obtain ⟨n8, l8, h⟩ := v_al h (by decide +kernel : pins 164 75 = some (5, 76, 0, 0, [])) (v := t) rfl
      obtain ⟨n9, l9, h⟩ := w_row (k := 26) W h (by decide +kernel : pins 164 76 = some (22, 79, 13, 26, [])) (by decide)
      obtain ⟨n10, l10, h⟩ := v_il h (by decide +kernel : pins 164 79 = some (3, 80, 2, 0, [])) (v := c) rfl
      obtain ⟨n11, w80, l11, b80, e80, h⟩ := w_iald W h (by decide +kernel : pins 164 80 = some (24, 81, 0, 0, [])) (by decide)
      obtain ⟨n12, l12, ⟨c81, h⟩ | ⟨c81, h⟩⟩ := u_if5 h (by decide +kernel : pins 164 81 = some (16, 84, 5, ((105 : Nat) : Int), []))
      · obtain ⟨n13, w105, l13, e105, h⟩ := u_inc h (by decide +kernel : pins 164 105 = some (9, 108, 2, 1, [])) (v := c) rfl
        have h : prun n13 164 108 [(2, .int w105), (1, .int hh), (0, .ref t)] [] σ = some x := h
        obtain ⟨n14, l14, h⟩ := u_go h (by decide +kernel : pins 164 108 = some (20, 111, 0, ((66 : Nat) : Int), []))
        have h := prun_lv h (lv' := [(2, .int w105), (1, .int hh), (0, .ref t)]) (lvLe.cons (lvLe.cons (lvLe.cons lvLe.nil rfl) rfl) rfl) (by decide : ([2, 1, 0] : List Nat).Nodup) (by decide : ([2, 1, 0] : List Nat).Nodup)
        have q69 : w69.toInt = 4 * hh.toInt := by rw [e69, n_mul (by rw [i67]; omega) (by rw [i67]; omega), i67]
        have q71 : w71.toInt = 4 * hh.toInt + 4 := by rw [addc e71 i70 (by omega) (by omega) (by decide) (by decide), q69]
        have q105 : w105.toInt = c.toInt + 1 := addc e105 (by decide : (Int32.ofInt 1).toInt = 1) (by omega) (by omega) (by decide) (by decide)
        rcases ih n14 (by omega) _ _ x W ⟨by omega, I2, I3, I4⟩ h with R | ⟨m, c2, l, h⟩
        · exact Or.inl R
        · exact Or.inr ⟨m, c2, by omega, h⟩
      · obtain ⟨n15, l15, h⟩ := v_al h (by decide +kernel : pins 164 84 = some (5, 85, 0, 0, [])) (v := t) rfl
        obtain ⟨n16, l16, h⟩ := w_row (k := 27) W h (by decide +kernel : pins 164 85 = some (22, 88, 13, 27, [])) (by decide)
        obtain ⟨n17, l17, h⟩ := v_il h (by decide +kernel : pins 164 88 = some (3, 89, 2, 0, [])) (v := c) rfl
        obtain ⟨n18, w89, l18, b89, e89, h⟩ := w_lald W h (by decide +kernel : pins 164 89 = some (26, 90, 0, 0, [])) (by decide)
        obtain ⟨n19, l19, h⟩ := v_al h (by decide +kernel : pins 164 90 = some (5, 91, 0, 0, [])) (v := t) rfl
        obtain ⟨n20, w91, l20, e91, h⟩ := w_fl W h (by decide +kernel : pins 164 91 = some (22, 94, 13, 0, []))
        obtain ⟨n21, w94, l21, e94, h⟩ := u_lcmp h (by decide +kernel : pins 164 94 = some (12, 95, 0, 0, []))
        obtain ⟨n22, l22, ⟨c95, h⟩ | ⟨c95, h⟩⟩ := u_if4 h (by decide +kernel : pins 164 95 = some (16, 98, 4, ((105 : Nat) : Int), []))
        · obtain ⟨n23, w105, l23, e105, h⟩ := u_inc h (by decide +kernel : pins 164 105 = some (9, 108, 2, 1, [])) (v := c) rfl
          have h : prun n23 164 108 [(2, .int w105), (1, .int hh), (0, .ref t)] [] σ = some x := h
          obtain ⟨n24, l24, h⟩ := u_go h (by decide +kernel : pins 164 108 = some (20, 111, 0, ((66 : Nat) : Int), []))
          have h := prun_lv h (lv' := [(2, .int w105), (1, .int hh), (0, .ref t)]) (lvLe.cons (lvLe.cons (lvLe.cons lvLe.nil rfl) rfl) rfl) (by decide : ([2, 1, 0] : List Nat).Nodup) (by decide : ([2, 1, 0] : List Nat).Nodup)
          have q69 : w69.toInt = 4 * hh.toInt := by rw [e69, n_mul (by rw [i67]; omega) (by rw [i67]; omega), i67]
          have q71 : w71.toInt = 4 * hh.toInt + 4 := by rw [addc e71 i70 (by omega) (by omega) (by decide) (by decide), q69]
          have q105 : w105.toInt = c.toInt + 1 := addc e105 (by decide : (Int32.ofInt 1).toInt = 1) (by omega) (by omega) (by decide) (by decide)
          rcases ih n24 (by omega) _ _ x W ⟨by omega, I2, I3, I4⟩ h with R | ⟨m, c2, l, h⟩
          · exact Or.inl R
          · exact Or.inr ⟨m, c2, by omega, h⟩
        · obtain ⟨n25, l25, h⟩ := v_al h (by decide +kernel : pins 164 98 = some (5, 99, 0, 0, [])) (v := t) rfl
          obtain ⟨n26, l26, h⟩ := v_il h (by decide +kernel : pins 164 99 = some (3, 100, 2, 0, [])) (v := c) rfl
          obtain ⟨n27, r100, s100, l27, h100, h⟩ := pinv_call h (by decide +kernel : pins 164 100 = some (36, 103, 160, 0, [2]))
          have h100 : prun n27 160 0 (lv_args 0 [.ref t, .int c]) [] σ = some (r100, s100) := h100
          obtain ⟨er100, S100, q100⟩ := pc_asks W h100 I2 I3
          have er100 : r100 = none := er100
          subst er100
          try dsimp only at S100
          try dsimp only at q100
          have h : prun n27 164 103 [(2, .int c), (1, .int hh), (0, .ref t)] [] s100 = some x := h
          obtain ⟨n28, w103, l28, ⟨e103, i103⟩, h⟩ := u_ic h (by decide +kernel : pins 164 103 = some (0, 104, 1, 0, [])) (by decide)
          have ex := u_ret38 h (by decide +kernel : pins 164 104 = some (38, 105, 0, 0, []))
          subst ex
          have hn : (hh.toNatClampNeg : Int) = hh.toInt := n_clamp hh0.1
          have cn : (c.toNatClampNeg : Int) = c.toInt := n_clamp I1.1
          have q69 : w69.toInt = 4 * hh.toInt := by rw [e69, n_mul (by rw [i67]; omega) (by rw [i67]; omega), i67]
          have q71 : w71.toInt = 4 * hh.toInt + 4 := by rw [addc e71 i70 (by omega) (by omega) (by decide) (by decide), q69]
          exact Or.inl ⟨by rw [e103]; rfl, S100, hh.toNatClampNeg, by omega, Or.inr (Or.inr (Or.inl ⟨c.toNatClampNeg, by omega, by omega, by rw [← e80]; omega, by rw [← e89, ← e91]; rcases e94 with ⟨_, _⟩ | ⟨_, _⟩ | ⟨_, _⟩ <;> omega, q100⟩))⟩
theorem pc_ac_r {t : Nat} {A : Nat → Nat} {hh : Int32} (hh0 : 0 ≤ hh.toInt ∧ hh.toInt ≤ 7) : ∀ (n : Nat) (c : Int32) (σ : ps) (x : Option Value × ps), Wld t A σ → ((0 ≤ c.toInt) ∧ (0 ≤ (gI (vw t A σ) 46 0).toInt ∧ (gI (vw t A σ) 46 0).toInt < 800) ∧ (0 ≤ (gI (vw t A σ) 47 0).toInt ∧ (gI (vw t A σ) 47 0).toInt ≤ 1000) ∧ TyV (vw t A σ)) → prun n 164 113 [(2, .int c), (1, .int hh), (0, .ref t)] [] σ = some x → (x.1 = some (.int 1) ∧ SP t A σ x.2 ∧ ActE (vw t A σ) (vw t A x.2)) ∨ ∃ (m : Nat) (c2 : Int32), m ≤ n ∧ prun m 164 155 [(2, .int c2), (1, .int hh), (0, .ref t)] [] σ = some x := by
  intro n
  induction n using Nat.strongRecOn with
  | ind n ih =>
    intro c σ x W I h
    obtain ⟨I1, I2, I3, I4⟩ := I
    obtain ⟨n1, l1, h⟩ := v_il h (by decide +kernel : pins 164 113 = some (3, 114, 2, 0, [])) (v := c) rfl
    obtain ⟨n2, l2, h⟩ := v_al h (by decide +kernel : pins 164 114 = some (5, 115, 0, 0, [])) (v := t) rfl
    obtain ⟨n3, l3, h⟩ := w_row (k := 31) W h (by decide +kernel : pins 164 115 = some (22, 118, 13, 31, [])) (by decide)
    obtain ⟨n4, l4, h⟩ := v_il h (by decide +kernel : pins 164 118 = some (3, 119, 1, 0, [])) (v := hh) rfl
    obtain ⟨n5, w119, l5, b119, e119, h⟩ := w_iald W h (by decide +kernel : pins 164 119 = some (24, 120, 0, 0, [])) (by decide)
    obtain ⟨n6, l6, ⟨c120, h⟩ | ⟨c120, h⟩⟩ := u_ic3 h (by decide +kernel : pins 164 120 = some (17, 123, 3, ((155 : Nat) : Int), []))
    · have h := prun_lv h (lv' := [(2, .int c), (1, .int hh), (0, .ref t)]) (lvLe.cons (lvLe.cons (lvLe.cons lvLe.nil rfl) rfl) rfl) (by decide : ([2, 1, 0] : List Nat).Nodup) (by decide : ([2, 1, 0] : List Nat).Nodup)
      exact Or.inr ⟨_, _, by omega, h⟩
    · obtain ⟨n7, l7, h⟩ := v_al h (by decide +kernel : pins 164 123 = some (5, 124, 0, 0, [])) (v := t) rfl
      obtain ⟨n8, l8, h⟩ := w_row (k := 30) W h (by decide +kernel : pins 164 124 = some (22, 127, 13, 30, [])) (by decide)
      obtain ⟨n9, w127, l9, ⟨e127, i127⟩, h⟩ := u_ic h (by decide +kernel : pins 164 127 = some (0, 128, 4, 0, [])) (by decide)
      obtain ⟨n10, l10, h⟩ := v_il h (by decide +kernel : pins 164 128 = some (3, 129, 1, 0, [])) (v := hh) rfl
      obtain ⟨n11, w129, l11, e129, h⟩ := u_mul h (by decide +kernel : pins 164 129 = some (10, 130, 2, 0, []))
      obtain ⟨n12, l12, h⟩ := v_il h (by decide +kernel : pins 164 130 = some (3, 131, 2, 0, [])) (v := c) rfl
      obtain ⟨n13, w131, l13, e131, h⟩ := u_add h (by decide +kernel : pins 164 131 = some (10, 132, 0, 0, []))
      obtain ⟨n14, w132, l14, b132, e132, h⟩ := w_lald W h (by decide +kernel : pins 164 132 = some (26, 133, 0, 0, [])) (by decide)
      obtain ⟨n15, l15, h⟩ := v_al h (by decide +kernel : pins 164 133 = some (5, 134, 0, 0, [])) (v := t) rfl
      obtain ⟨n16, w134, l16, e134, h⟩ := w_fl W h (by decide +kernel : pins 164 134 = some (22, 137, 13, 0, []))
      obtain ⟨n17, w137, l17, e137, h⟩ := u_lcmp h (by decide +kernel : pins 164 137 = some (12, 138, 0, 0, []))
      obtain ⟨n18, l18, ⟨c138, h⟩ | ⟨c138, h⟩⟩ := u_if4 h (by decide +kernel : pins 164 138 = some (16, 141, 4, ((149 : Nat) : Int), []))
      · obtain ⟨n19, w149, l19, e149, h⟩ := u_inc h (by decide +kernel : pins 164 149 = some (9, 152, 2, 1, [])) (v := c) rfl
        have h : prun n19 164 152 [(2, .int w149), (1, .int hh), (0, .ref t)] [] σ = some x := h
        obtain ⟨n20, l20, h⟩ := u_go h (by decide +kernel : pins 164 152 = some (20, 155, 0, ((113 : Nat) : Int), []))
        have h := prun_lv h (lv' := [(2, .int w149), (1, .int hh), (0, .ref t)]) (lvLe.cons (lvLe.cons (lvLe.cons lvLe.nil rfl) rfl) rfl) (by decide : ([2, 1, 0] : List Nat).Nodup) (by decide : ([2, 1, 0] : List Nat).Nodup)
        have hn : (hh.toNatClampNeg : Int) = hh.toInt := n_clamp hh0.1
        have q119 : w119.toInt = (gI (vw t A σ) 31 hh.toNatClampNeg).toInt := by rw [e119]
        have r4 := I4.1 hh.toNatClampNeg (by omega)
        have q149 : w149.toInt = c.toInt + 1 := addc e149 (by decide : (Int32.ofInt 1).toInt = 1) (by omega) (by omega) (by decide) (by decide)
        rcases ih n20 (by omega) _ _ x W ⟨by omega, I2, I3, I4⟩ h with R | ⟨m, c2, l, h⟩
        · exact Or.inl R
        · exact Or.inr ⟨m, c2, by omega, h⟩
      · obtain ⟨n21, l21, h⟩ := v_al h (by decide +kernel : pins 164 141 = some (5, 142, 0, 0, [])) (v := t) rfl
        obtain ⟨n22, l22, h⟩ := v_il h (by decide +kernel : pins 164 142 = some (3, 143, 1, 0, [])) (v := hh) rfl
        obtain ⟨n23, l23, h⟩ := v_il h (by decide +kernel : pins 164 143 = some (3, 144, 2, 0, [])) (v := c) rfl
        obtain ⟨n24, r144, s144, l24, h144, h⟩ := pinv_call h (by decide +kernel : pins 164 144 = some (36, 147, 161, 0, [3]))
        have h144 : prun n24 161 0 (lv_args 0 [.ref t, .int hh, .int c]) [] σ = some (r144, s144) := h144
        have hn : (hh.toNatClampNeg : Int) = hh.toInt := n_clamp hh0.1
        have q119 : w119.toInt = (gI (vw t A σ) 31 hh.toNatClampNeg).toInt := by rw [e119]
        have r4 := I4.1 hh.toNatClampNeg (by omega)
        obtain ⟨er144, S144, q144⟩ := pc_replies1 W h144 hh0 I2 I3 (by omega) (by omega)
        have er144 : r144 = none := er144
        subst er144
        try dsimp only at S144
        try dsimp only at q144
        have h : prun n24 164 147 [(2, .int c), (1, .int hh), (0, .ref t)] [] s144 = some x := h
        obtain ⟨n25, w147, l25, ⟨e147, i147⟩, h⟩ := u_ic h (by decide +kernel : pins 164 147 = some (0, 148, 1, 0, [])) (by decide)
        have ex := u_ret38 h (by decide +kernel : pins 164 148 = some (38, 149, 0, 0, []))
        subst ex
        have hn : (hh.toNatClampNeg : Int) = hh.toInt := n_clamp hh0.1
        have q119 : w119.toInt = (gI (vw t A σ) 31 hh.toNatClampNeg).toInt := by rw [e119]
        have r4 := I4.1 hh.toNatClampNeg (by omega)
        have q129 : w129.toInt = 4 * hh.toInt := by rw [e129, n_mul (by rw [i127]; omega) (by rw [i127]; omega), i127]
        have q131 : w131.toInt = 4 * hh.toInt + c.toInt := by rw [addc e131 rfl (by omega) (by omega) (by omega) (by omega), q129]
        have n131 : w131.toNatClampNeg = 4 * hh.toNatClampNeg + c.toInt.toNat := by rw [clampc q131 (by omega)]; omega
        refine Or.inl ⟨by rw [e147]; rfl, S144, hh.toNatClampNeg, by omega, Or.inr (Or.inr (Or.inr (Or.inl ⟨c.toInt.toNat, by omega, by rw [← n131, ← e132, ← e134]; rcases e137 with ⟨_, _⟩ | ⟨_, _⟩ | ⟨_, _⟩ <;> omega, ?_⟩)))⟩
        rw [show ((c.toInt.toNat : Nat) : Int) = c.toInt by omega]
        exact q144
theorem pc_ac_e {t : Nat} {A : Nat → Nat} {hh : Int32} (hh0 : 0 ≤ hh.toInt ∧ hh.toInt ≤ 7) : ∀ (n : Nat) (c : Int32) (σ : ps) (x : Option Value × ps), Wld t A σ → ((0 ≤ c.toInt ∧ 24 * hh.toInt ≤ c.toInt) ∧ (0 ≤ (gI (vw t A σ) 46 0).toInt ∧ (gI (vw t A σ) 46 0).toInt < 800) ∧ (0 ≤ (gI (vw t A σ) 47 0).toInt ∧ (gI (vw t A σ) 47 0).toInt ≤ 1000) ∧ TyV (vw t A σ)) → prun n 164 160 [(2, .int c), (1, .int hh), (0, .ref t)] [] σ = some x → (x.1 = some (.int 1) ∧ SP t A σ x.2 ∧ ActE (vw t A σ) (vw t A x.2)) ∨ ∃ (m : Nat) (c2 : Int32), m ≤ n ∧ prun m 164 202 [(2, .int c2), (1, .int hh), (0, .ref t)] [] σ = some x := by
  intro n
  induction n using Nat.strongRecOn with
  | ind n ih =>
    intro c σ x W I h
    obtain ⟨I1, I2, I3, I4⟩ := I
    obtain ⟨n1, l1, h⟩ := v_il h (by decide +kernel : pins 164 160 = some (3, 161, 2, 0, [])) (v := c) rfl
    obtain ⟨n2, w161, l2, ⟨e161, i161⟩, h⟩ := u_ic h (by decide +kernel : pins 164 161 = some (0, 163, 24, 0, [])) (by decide)
    obtain ⟨n3, l3, h⟩ := v_il h (by decide +kernel : pins 164 163 = some (3, 164, 1, 0, [])) (v := hh) rfl
    obtain ⟨n4, w164, l4, e164, h⟩ := u_mul h (by decide +kernel : pins 164 164 = some (10, 165, 2, 0, []))
    obtain ⟨n5, l5, h⟩ := v_al h (by decide +kernel : pins 164 165 = some (5, 166, 0, 0, [])) (v := t) rfl
    obtain ⟨n6, l6, h⟩ := w_row (k := 32) W h (by decide +kernel : pins 164 166 = some (22, 169, 13, 32, [])) (by decide)
    obtain ⟨n7, l7, h⟩ := v_il h (by decide +kernel : pins 164 169 = some (3, 170, 1, 0, [])) (v := hh) rfl
    obtain ⟨n8, w170, l8, b170, e170, h⟩ := w_iald W h (by decide +kernel : pins 164 170 = some (24, 171, 0, 0, [])) (by decide)
    obtain ⟨n9, w171, l9, e171, h⟩ := u_add h (by decide +kernel : pins 164 171 = some (10, 172, 0, 0, []))
    obtain ⟨n10, l10, ⟨c172, h⟩ | ⟨c172, h⟩⟩ := u_ic3 h (by decide +kernel : pins 164 172 = some (17, 175, 3, ((202 : Nat) : Int), []))
    · have h := prun_lv h (lv' := [(2, .int c), (1, .int hh), (0, .ref t)]) (lvLe.cons (lvLe.cons (lvLe.cons lvLe.nil rfl) rfl) rfl) (by decide : ([2, 1, 0] : List Nat).Nodup) (by decide : ([2, 1, 0] : List Nat).Nodup)
      exact Or.inr ⟨_, _, by omega, h⟩
    · obtain ⟨n11, l11, h⟩ := v_al h (by decide +kernel : pins 164 175 = some (5, 176, 0, 0, [])) (v := t) rfl
      obtain ⟨n12, l12, h⟩ := v_il h (by decide +kernel : pins 164 176 = some (3, 177, 2, 0, [])) (v := c) rfl
      obtain ⟨n13, r177, s177, l13, h177, h⟩ := pinv_call h (by decide +kernel : pins 164 177 = some (36, 180, 162, 0, [2]))
      have h177 : prun n13 162 0 (lv_args 0 [.ref t, .int c]) [] σ = some (r177, s177) := h177
      obtain ⟨es177, w177, er177, f177⟩ := pc_entryDue W h177
      have er177 : r177 = some (.long w177) := er177
      have et177 : s177 = σ := es177
      rw [et177] at h
      subst er177
      have h : prun n13 164 180 [(2, .int c), (1, .int hh), (0, .ref t)] [.long w177] σ = some x := h
      obtain ⟨n14, l14, h⟩ := v_al h (by decide +kernel : pins 164 180 = some (5, 181, 0, 0, [])) (v := t) rfl
      obtain ⟨n15, w181, l15, e181, h⟩ := w_fl W h (by decide +kernel : pins 164 181 = some (22, 184, 13, 0, []))
      obtain ⟨n16, w184, l16, e184, h⟩ := u_lcmp h (by decide +kernel : pins 164 184 = some (12, 185, 0, 0, []))
      obtain ⟨n17, l17, ⟨c185, h⟩ | ⟨c185, h⟩⟩ := u_if4 h (by decide +kernel : pins 164 185 = some (16, 188, 4, ((196 : Nat) : Int), []))
      · obtain ⟨n18, w196, l18, e196, h⟩ := u_inc h (by decide +kernel : pins 164 196 = some (9, 199, 2, 1, [])) (v := c) rfl
        have h : prun n18 164 199 [(2, .int w196), (1, .int hh), (0, .ref t)] [] σ = some x := h
        obtain ⟨n19, l19, h⟩ := u_go h (by decide +kernel : pins 164 199 = some (20, 202, 0, ((160 : Nat) : Int), []))
        have h := prun_lv h (lv' := [(2, .int w196), (1, .int hh), (0, .ref t)]) (lvLe.cons (lvLe.cons (lvLe.cons lvLe.nil rfl) rfl) rfl) (by decide : ([2, 1, 0] : List Nat).Nodup) (by decide : ([2, 1, 0] : List Nat).Nodup)
        have hn : (hh.toNatClampNeg : Int) = hh.toInt := n_clamp hh0.1
        have cn : (c.toNatClampNeg : Int) = c.toInt := n_clamp I1.1
        have q170 : w170.toInt = (gI (vw t A σ) 32 hh.toNatClampNeg).toInt := by rw [e170]
        have r4 := I4.2.1 hh.toNatClampNeg (by omega)
        have q164 : w164.toInt = 24 * hh.toInt := by rw [e164, n_mul (by rw [i161]; omega) (by rw [i161]; omega), i161]
        have q171 : w171.toInt = 24 * hh.toInt + w170.toInt := by rw [addc e171 rfl (by omega) (by omega) (by omega) (by omega), q164]
        have q196 : w196.toInt = c.toInt + 1 := addc e196 (by decide : (Int32.ofInt 1).toInt = 1) (by omega) (by omega) (by decide) (by decide)
        rcases ih n19 (by omega) _ _ x W ⟨by omega, I2, I3, I4⟩ h with R | ⟨m, c2, l, h⟩
        · exact Or.inl R
        · exact Or.inr ⟨m, c2, by omega, h⟩
      · obtain ⟨n20, l20, h⟩ := v_al h (by decide +kernel : pins 164 188 = some (5, 189, 0, 0, [])) (v := t) rfl
        obtain ⟨n21, l21, h⟩ := v_il h (by decide +kernel : pins 164 189 = some (3, 190, 1, 0, [])) (v := hh) rfl
        obtain ⟨n22, l22, h⟩ := v_il h (by decide +kernel : pins 164 190 = some (3, 191, 2, 0, [])) (v := c) rfl
        obtain ⟨n23, r191, s191, l23, h191, h⟩ := pinv_call h (by decide +kernel : pins 164 191 = some (36, 194, 163, 0, [3]))
        have h191 : prun n23 163 0 (lv_args 0 [.ref t, .int hh, .int c]) [] σ = some (r191, s191) := h191
        have hn : (hh.toNatClampNeg : Int) = hh.toInt := n_clamp hh0.1
        have cn : (c.toNatClampNeg : Int) = c.toInt := n_clamp I1.1
        have q170 : w170.toInt = (gI (vw t A σ) 32 hh.toNatClampNeg).toInt := by rw [e170]
        have r4 := I4.2.1 hh.toNatClampNeg (by omega)
        have q164 : w164.toInt = 24 * hh.toInt := by rw [e164, n_mul (by rw [i161]; omega) (by rw [i161]; omega), i161]
        have q171 : w171.toInt = 24 * hh.toInt + w170.toInt := by rw [addc e171 rfl (by omega) (by omega) (by omega) (by omega), q164]
        obtain ⟨er191, S191, q191⟩ := pc_entry1 W h191 hh0 I2 I3 (by omega) (by omega) I4.2.2
        have er191 : r191 = none := er191
        subst er191
        try dsimp only at S191
        try dsimp only at q191
        have h : prun n23 164 194 [(2, .int c), (1, .int hh), (0, .ref t)] [] s191 = some x := h
        obtain ⟨n24, w194, l24, ⟨e194, i194⟩, h⟩ := u_ic h (by decide +kernel : pins 164 194 = some (0, 195, 1, 0, [])) (by decide)
        have ex := u_ret38 h (by decide +kernel : pins 164 195 = some (38, 196, 0, 0, []))
        subst ex
        exact Or.inl ⟨by rw [e194]; rfl, S191, hh.toNatClampNeg, by omega, Or.inr (Or.inr (Or.inr (Or.inr ⟨c.toNatClampNeg, by omega, by omega, ⟨w177, f177, by rw [← e181]; rcases e184 with ⟨_, _⟩ | ⟨_, _⟩ | ⟨_, _⟩ <;> omega⟩, q191⟩)))⟩
theorem pc_ac_h {t : Nat} {A : Nat → Nat}  : ∀ (n : Nat) (hh c : Int32) (σ : ps) (x : Option Value × ps), Wld t A σ → ((0 ≤ hh.toInt) ∧ (0 ≤ (gI (vw t A σ) 46 0).toInt ∧ (gI (vw t A σ) 46 0).toInt < 800) ∧ (0 ≤ (gI (vw t A σ) 47 0).toInt ∧ (gI (vw t A σ) 47 0).toInt ≤ 1000) ∧ TyV (vw t A σ)) → prun n 164 2 [(2, .int c), (1, .int hh), (0, .ref t)] [] σ = some x → (x.1 = some (.int 0) ∧ x.2 = σ) ∨ (x.1 = some (.int 1) ∧ SP t A σ x.2 ∧ ActE (vw t A σ) (vw t A x.2)) := by
  intro n
  induction n using Nat.strongRecOn with
  | ind n ih =>
    intro hh c σ x W I h
    obtain ⟨I1, I2, I3, I4⟩ := I
    obtain ⟨n1, l1, h⟩ := v_il h (by decide +kernel : pins 164 2 = some (3, 3, 1, 0, [])) (v := hh) rfl
    obtain ⟨n2, w3, l2, ⟨e3, i3⟩, h⟩ := u_ic h (by decide +kernel : pins 164 3 = some (0, 5, 8, 0, [])) (by decide)
    obtain ⟨n3, l3, ⟨c5, h⟩ | ⟨c5, h⟩⟩ := u_ic3 h (by decide +kernel : pins 164 5 = some (17, 8, 3, ((208 : Nat) : Int), []))
    · obtain ⟨n4, w208, l4, ⟨e208, i208⟩, h⟩ := u_ic h (by decide +kernel : pins 164 208 = some (0, 209, 0, 0, [])) (by decide)
      have ex := u_ret38 h (by decide +kernel : pins 164 209 = some (38, 210, 0, 0, []))
      subst ex
      exact Or.inl ⟨by rw [e208]; rfl, rfl⟩
    · obtain ⟨n6, l6, h⟩ := v_al h (by decide +kernel : pins 164 8 = some (5, 9, 0, 0, [])) (v := t) rfl
      obtain ⟨n7, l7, h⟩ := w_row (k := 4) W h (by decide +kernel : pins 164 9 = some (22, 12, 13, 4, [])) (by decide)
      obtain ⟨n8, l8, h⟩ := v_il h (by decide +kernel : pins 164 12 = some (3, 13, 1, 0, [])) (v := hh) rfl
      obtain ⟨n9, w13, l9, b13, e13, h⟩ := w_bald W h (by decide +kernel : pins 164 13 = some (25, 14, 0, 0, [])) (by decide)
      obtain ⟨n10, l10, ⟨c14, h⟩ | ⟨c14, h⟩⟩ := u_if1 h (by decide +kernel : pins 164 14 = some (16, 17, 1, ((20 : Nat) : Int), []))
      · obtain ⟨n11, l11, h⟩ := v_al h (by decide +kernel : pins 164 20 = some (5, 21, 0, 0, [])) (v := t) rfl
        obtain ⟨n12, l12, h⟩ := w_row (k := 14) W h (by decide +kernel : pins 164 21 = some (22, 24, 13, 14, [])) (by decide)
        obtain ⟨n13, l13, h⟩ := v_il h (by decide +kernel : pins 164 24 = some (3, 25, 1, 0, [])) (v := hh) rfl
        obtain ⟨n14, w25, l14, b25, e25, h⟩ := w_lald W h (by decide +kernel : pins 164 25 = some (26, 26, 0, 0, [])) (by decide)
        obtain ⟨n15, l15, h⟩ := v_al h (by decide +kernel : pins 164 26 = some (5, 27, 0, 0, [])) (v := t) rfl
        obtain ⟨n16, w27, l16, e27, h⟩ := w_fl W h (by decide +kernel : pins 164 27 = some (22, 30, 13, 0, []))
        obtain ⟨n17, w30, l17, e30, h⟩ := u_lcmp h (by decide +kernel : pins 164 30 = some (12, 31, 0, 0, []))
        obtain ⟨n18, l18, ⟨c31, h⟩ | ⟨c31, h⟩⟩ := u_if4 h (by decide +kernel : pins 164 31 = some (16, 34, 4, ((41 : Nat) : Int), []))
        · obtain ⟨n19, l19, h⟩ := v_al h (by decide +kernel : pins 164 41 = some (5, 42, 0, 0, [])) (v := t) rfl
          obtain ⟨n20, l20, h⟩ := w_row (k := 18) W h (by decide +kernel : pins 164 42 = some (22, 45, 13, 18, [])) (by decide)
          obtain ⟨n21, l21, h⟩ := v_il h (by decide +kernel : pins 164 45 = some (3, 46, 1, 0, [])) (v := hh) rfl
          obtain ⟨n22, w46, l22, b46, e46, h⟩ := w_lald W h (by decide +kernel : pins 164 46 = some (26, 47, 0, 0, [])) (by decide)
          obtain ⟨n23, l23, h⟩ := v_al h (by decide +kernel : pins 164 47 = some (5, 48, 0, 0, [])) (v := t) rfl
          obtain ⟨n24, w48, l24, e48, h⟩ := w_fl W h (by decide +kernel : pins 164 48 = some (22, 51, 13, 0, []))
          obtain ⟨n25, w51, l25, e51, h⟩ := u_lcmp h (by decide +kernel : pins 164 51 = some (12, 52, 0, 0, []))
          obtain ⟨n26, l26, ⟨c52, h⟩ | ⟨c52, h⟩⟩ := u_if4 h (by decide +kernel : pins 164 52 = some (16, 55, 4, ((62 : Nat) : Int), []))
          · obtain ⟨n27, w62, l27, ⟨e62, i62⟩, h⟩ := u_ic h (by decide +kernel : pins 164 62 = some (0, 63, 4, 0, [])) (by decide)
            obtain ⟨n28, l28, h⟩ := v_il h (by decide +kernel : pins 164 63 = some (3, 64, 1, 0, [])) (v := hh) rfl
            obtain ⟨n29, w64, l29, e64, h⟩ := u_mul h (by decide +kernel : pins 164 64 = some (10, 65, 2, 0, []))
            obtain ⟨n30, l30, h⟩ := v_is h (by decide +kernel : pins 164 65 = some (6, 66, 2, 0, []))
            have h : prun n30 164 66 [(2, .int w64), (1, .int hh), (0, .ref t)] [] σ = some x := h
            have h := prun_lv h (lv' := [(2, .int w64), (1, .int hh), (0, .ref t)]) (lvLe.cons (lvLe.cons (lvLe.cons lvLe.nil rfl) rfl) rfl) (by decide : ([2, 1, 0] : List Nat).Nodup) (by decide : ([2, 1, 0] : List Nat).Nodup)
            have hh0 : 0 ≤ hh.toInt ∧ hh.toInt ≤ 7 := by omega
            have q64 : w64.toInt = 4 * hh.toInt := by rw [e64, n_mul (by rw [i62]; omega) (by rw [i62]; omega), i62]
            rcases pc_ac_q hh0 _ _ _ x W ⟨by omega, I2, I3, I4⟩ h with R | ⟨m1, c2, lm1, h⟩
            · exact Or.inr R
            obtain ⟨n501, w111, l501, ⟨e111, i111⟩, h⟩ := u_ic h (by decide +kernel : pins 164 111 = some (0, 112, 0, 0, [])) (by decide)
            obtain ⟨n502, l502, h⟩ := v_is h (by decide +kernel : pins 164 112 = some (6, 113, 2, 0, []))
            have h : prun n502 164 113 [(2, .int w111), (1, .int hh), (0, .ref t)] [] σ = some x := h
            have h := prun_lv h (lv' := [(2, .int w111), (1, .int hh), (0, .ref t)]) (lvLe.cons (lvLe.cons (lvLe.cons lvLe.nil rfl) rfl) rfl) (by decide : ([2, 1, 0] : List Nat).Nodup) (by decide : ([2, 1, 0] : List Nat).Nodup)
            rcases pc_ac_r hh0 _ _ _ x W ⟨by omega, I2, I3, I4⟩ h with R | ⟨m2, c3, lm2, h⟩
            · exact Or.inr R
            obtain ⟨n701, w155, l701, ⟨e155, i155⟩, h⟩ := u_ic h (by decide +kernel : pins 164 155 = some (0, 157, 24, 0, [])) (by decide)
            obtain ⟨n702, l702, h⟩ := v_il h (by decide +kernel : pins 164 157 = some (3, 158, 1, 0, [])) (v := hh) rfl
            obtain ⟨n703, w158, l703, e158, h⟩ := u_mul h (by decide +kernel : pins 164 158 = some (10, 159, 2, 0, []))
            obtain ⟨n704, l704, h⟩ := v_is h (by decide +kernel : pins 164 159 = some (6, 160, 2, 0, []))
            have h : prun n704 164 160 [(2, .int w158), (1, .int hh), (0, .ref t)] [] σ = some x := h
            have h := prun_lv h (lv' := [(2, .int w158), (1, .int hh), (0, .ref t)]) (lvLe.cons (lvLe.cons (lvLe.cons lvLe.nil rfl) rfl) rfl) (by decide : ([2, 1, 0] : List Nat).Nodup) (by decide : ([2, 1, 0] : List Nat).Nodup)
            have q158 : w158.toInt = 24 * hh.toInt := by rw [e158, n_mul (by rw [i155]; omega) (by rw [i155]; omega), i155]
            rcases pc_ac_e hh0 _ _ _ x W ⟨by omega, I2, I3, I4⟩ h with R | ⟨m3, c4, lm3, h⟩
            · exact Or.inr R
            obtain ⟨n901, w202, l901, e202, h⟩ := u_inc h (by decide +kernel : pins 164 202 = some (9, 205, 1, 1, [])) (v := hh) rfl
            have h : prun n901 164 205 [(1, .int w202), (2, .int c4), (0, .ref t)] [] σ = some x := h
            obtain ⟨n902, l902, h⟩ := u_go h (by decide +kernel : pins 164 205 = some (20, 208, 0, ((2 : Nat) : Int), []))
            have h := prun_lv h (lv' := [(2, .int c4), (1, .int w202), (0, .ref t)]) (lvLe.cons (lvLe.cons (lvLe.cons lvLe.nil rfl) rfl) rfl) (by decide : ([1, 2, 0] : List Nat).Nodup) (by decide : ([2, 1, 0] : List Nat).Nodup)
            have q202 : w202.toInt = hh.toInt + 1 := addc e202 (by decide : (Int32.ofInt 1).toInt = 1) (by omega) (by omega) (by decide) (by decide)
            exact ih n902 (by omega) _ _ _ x W ⟨by omega, I2, I3, I4⟩ h
          · obtain ⟨n31, l31, h⟩ := v_al h (by decide +kernel : pins 164 55 = some (5, 56, 0, 0, [])) (v := t) rfl
            obtain ⟨n32, l32, h⟩ := v_il h (by decide +kernel : pins 164 56 = some (3, 57, 1, 0, [])) (v := hh) rfl
            obtain ⟨n33, r57, s57, l33, h57, h⟩ := pinv_call h (by decide +kernel : pins 164 57 = some (36, 60, 159, 0, [2]))
            have h57 : prun n33 159 0 (lv_args 0 [.ref t, .int hh]) [] σ = some (r57, s57) := h57
            have hh0 : 0 ≤ hh.toInt ∧ hh.toInt ≤ 7 := by omega
            obtain ⟨er57, S57, q57⟩ := pc_name1 W h57 I2 I3
            have er57 : r57 = none := er57
            subst er57
            try dsimp only at S57
            try dsimp only at q57
            have h : prun n33 164 60 [(2, .int c), (1, .int hh), (0, .ref t)] [] s57 = some x := h
            obtain ⟨n34, w60, l34, ⟨e60, i60⟩, h⟩ := u_ic h (by decide +kernel : pins 164 60 = some (0, 61, 1, 0, [])) (by decide)
            have ex := u_ret38 h (by decide +kernel : pins 164 61 = some (38, 62, 0, 0, []))
            subst ex
            have hn : (hh.toNatClampNeg : Int) = hh.toInt := n_clamp hh0.1
            exact Or.inr ⟨by rw [e60]; rfl, S57, hh.toNatClampNeg, by omega, Or.inr (Or.inl ⟨by rw [← e46, ← e48]; rcases e51 with ⟨_, _⟩ | ⟨_, _⟩ | ⟨_, _⟩ <;> omega, q57⟩)⟩
        · obtain ⟨n36, l36, h⟩ := v_al h (by decide +kernel : pins 164 34 = some (5, 35, 0, 0, [])) (v := t) rfl
          obtain ⟨n37, l37, h⟩ := v_il h (by decide +kernel : pins 164 35 = some (3, 36, 1, 0, [])) (v := hh) rfl
          obtain ⟨n38, r36, s36, l38, h36, h⟩ := pinv_call h (by decide +kernel : pins 164 36 = some (36, 39, 158, 0, [2]))
          have h36 : prun n38 158 0 (lv_args 0 [.ref t, .int hh]) [] σ = some (r36, s36) := h36
          have hh0 : 0 ≤ hh.toInt ∧ hh.toInt ≤ 7 := by omega
          obtain ⟨er36, S36, q36⟩ := pc_address1 W h36 I2 I3
          have er36 : r36 = none := er36
          subst er36
          try dsimp only at S36
          try dsimp only at q36
          have h : prun n38 164 39 [(2, .int c), (1, .int hh), (0, .ref t)] [] s36 = some x := h
          obtain ⟨n39, w39, l39, ⟨e39, i39⟩, h⟩ := u_ic h (by decide +kernel : pins 164 39 = some (0, 40, 1, 0, [])) (by decide)
          have ex := u_ret38 h (by decide +kernel : pins 164 40 = some (38, 41, 0, 0, []))
          subst ex
          have hn : (hh.toNatClampNeg : Int) = hh.toInt := n_clamp hh0.1
          exact Or.inr ⟨by rw [e39]; rfl, S36, hh.toNatClampNeg, by omega, Or.inl ⟨by rw [← e25, ← e27]; rcases e30 with ⟨_, _⟩ | ⟨_, _⟩ | ⟨_, _⟩ <;> omega, q36⟩⟩
      · obtain ⟨n41, l41, h⟩ := u_go h (by decide +kernel : pins 164 17 = some (20, 20, 0, ((202 : Nat) : Int), []))
        obtain ⟨n42, w202, l42, e202, h⟩ := u_inc h (by decide +kernel : pins 164 202 = some (9, 205, 1, 1, [])) (v := hh) rfl
        have h : prun n42 164 205 [(1, .int w202), (2, .int c), (0, .ref t)] [] σ = some x := h
        obtain ⟨n43, l43, h⟩ := u_go h (by decide +kernel : pins 164 205 = some (20, 208, 0, ((2 : Nat) : Int), []))
        have h := prun_lv h (lv' := [(2, .int c), (1, .int w202), (0, .ref t)]) (lvLe.cons (lvLe.cons (lvLe.cons lvLe.nil rfl) rfl) rfl) (by decide : ([1, 2, 0] : List Nat).Nodup) (by decide : ([2, 1, 0] : List Nat).Nodup)
        have q202 : w202.toInt = hh.toInt + 1 := addc e202 (by decide : (Int32.ofInt 1).toInt = 1) (by omega) (by omega) (by decide) (by decide)
        exact ih n43 (by omega) _ _ _ x W ⟨by omega, I2, I3, I4⟩ h
theorem pc_acts {t n : Nat} {A : Nat → Nat}  {σ : ps} {x : Option Value × ps} (W : Wld t A σ) (h : prun n 164 0 (lv_args 0 [.ref t]) [] σ = some x) (HA : 0 ≤ (gI (vw t A σ) 46 0).toInt ∧ (gI (vw t A σ) 46 0).toInt < 800) (HM : 0 ≤ (gI (vw t A σ) 47 0).toInt ∧ (gI (vw t A σ) 47 0).toInt ≤ 1000) (TV : TyV (vw t A σ)) : (x.1 = some (.int 0) ∧ x.2 = σ) ∨ (x.1 = some (.int 1) ∧ SP t A σ x.2 ∧ ActE (vw t A σ) (vw t A x.2)) := by
  have h : prun n 164 0 [(0, .ref t)] [] σ = some x := h
  obtain ⟨n1, w0, l1, ⟨e0, i0⟩, h⟩ := u_ic h (by decide +kernel : pins 164 0 = some (0, 1, 0, 0, [])) (by decide)
  obtain ⟨n2, l2, h⟩ := v_is h (by decide +kernel : pins 164 1 = some (6, 2, 1, 0, []))
  have h : prun n2 164 2 [(1, .int w0), (0, .ref t)] [] σ = some x := h
  have h := prun_lv h (lv' := [(2, .int 0), (1, .int w0), (0, .ref t)]) (lvLe.cons (lvLe.cons lvLe.nil rfl) rfl) (by decide : ([1, 0] : List Nat).Nodup) (by decide : ([2, 1, 0] : List Nat).Nodup)
  exact pc_ac_h _ _ _ _ x W ⟨by omega, HA, HM, TV⟩ h
