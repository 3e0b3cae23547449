theorem nar_bo {w : Int32} (h0 : 0 ≤ w.toInt) (h1 : w.toInt ≤ 1) : vp_nar .boolean w = w := by
  have : w = 0 ∨ w = 1 := by
    by_cases e : w.toInt = 0
    · exact Or.inl (Int32.toInt_inj.mp (by rw [e]; rfl))
    · exact Or.inr (Int32.toInt_inj.mp (by show w.toInt = 1; omega))
  rcases this with e | e <;> rw [e] <;> decide
/-- entries behind a place move down -/
def EnS (V V' : Nat → Nat → Value) (c : Nat) (e : Int) : Prop := (∀ j q : Nat, ¬ (33 ≤ j ∧ j ≤ 41) → V' j q = V j q) ∧ ShI V V' 35 c e ∧ ShL V V' 36 c e ∧ ShL V V' 37 c e ∧ ShI V V' 38 c e ∧ ShI V V' 39 c e
def En1 (V V' : Nat → Nat → Value) (h k : Nat) : Prop := ((gL V 37 k).toInt ≤ (gL V 0 0).toInt ∧ ∃ V1, (∀ j q : Nat, ¬ (j = 32 ∧ q = h) → V1 j q = V j q) ∧ (gI V1 32 h).toInt = (gI V 32 h).toInt - 1 ∧ EnS V1 V' k (24 * (h : Int) + (gI V 32 h).toInt - 1)) ∨
  ((gL V 0 0).toInt < (gL V 37 k).toInt ∧ ∃ V1 w, w.toInt = (gI V 39 k + 1).toInt ∧ V1 = up V 39 k (.int w) ∧ (V' = V1 ∨ (FrS V1 V' ∧ Snd V1 V' 8)))
set_option maxHeartbeats 2000000 in
theorem pc_en_s {t : Nat} {A : Nat → Nat} {hh k : Int32} (hh0 : 0 ≤ hh.toInt ∧ hh.toInt ≤ 7) : ∀ (n : Nat) (c : Int32) (σ : ps) (x : Option Value × ps), Wld t A σ → (0 ≤ c.toInt ∧ (0 ≤ (gI (vw t A σ) 32 hh.toNatClampNeg).toInt ∧ (gI (vw t A σ) 32 hh.toNatClampNeg).toInt ≤ 24) ∧ ∀ q : Nat, q < 192 → 0 ≤ (gI (vw t A σ) 38 q).toInt ∧ (gI (vw t A σ) 38 q).toInt ≤ 1) → prun n 163 26 [(3, .int c), (0, .ref t), (1, .int hh), (2, .int k)] [] σ = some x → x.1 = none ∧ SP t A σ x.2 ∧ EnS (vw t A σ) (vw t A x.2) c.toNatClampNeg (24 * (hh.toNatClampNeg : Int) + (gI (vw t A σ) 32 hh.toNatClampNeg).toInt) := by
  intro n
  induction n using Nat.strongRecOn with
  | ind n ih =>
    intro c σ x W I h
    obtain ⟨I1, I2, hB⟩ := I
    obtain ⟨n1, l1, h⟩ := v_il h (by decide +kernel : pins 163 26 = some (3, 27, 3, 0, [])) (v := c) rfl
    obtain ⟨n2, w27, l2, ⟨e27, i27⟩, h⟩ := u_ic h (by decide +kernel : pins 163 27 = some (0, 29, 24, 0, [])) (by decide)
    obtain ⟨n3, l3, h⟩ := v_il h (by decide +kernel : pins 163 29 = some (3, 30, 1, 0, [])) (v := hh) rfl
    obtain ⟨n4, w30, l4, e30, h⟩ := u_mul h (by decide +kernel : pins 163 30 = some (10, 31, 2, 0, []))
    obtain ⟨n5, l5, h⟩ := v_al h (by decide +kernel : pins 163 31 = some (5, 32, 0, 0, [])) (v := t) rfl
    obtain ⟨n6, l6, h⟩ := w_row (k := 32) W h (by decide +kernel : pins 163 32 = some (22, 35, 13, 32, [])) (by decide)
    obtain ⟨n7, l7, h⟩ := v_il h (by decide +kernel : pins 163 35 = some (3, 36, 1, 0, [])) (v := hh) rfl
    obtain ⟨n8, w36, l8, b36, e36, h⟩ := w_iald W h (by decide +kernel : pins 163 36 = some (24, 37, 0, 0, [])) (by decide)
    obtain ⟨n9, w37, l9, e37, h⟩ := u_add h (by decide +kernel : pins 163 37 = some (10, 38, 0, 0, []))
    obtain ⟨n10, l10, ⟨c38, h⟩ | ⟨c38, h⟩⟩ := u_ic3 h (by decide +kernel : pins 163 38 = some (17, 41, 3, ((189 : Nat) : Int), []))
    · have ex := u_ret37 h (by decide +kernel : pins 163 189 = some (37, 190, 0, 0, []))
      subst ex
      have q30 : w30.toInt = 24 * hh.toInt := by rw [e30, n_mul (by rw [i27]; omega) (by rw [i27]; omega), i27]
      have hn : (hh.toNatClampNeg : Int) = hh.toInt := n_clamp hh0.1
      have q36 : w36.toInt = (gI (vw t A σ) 32 hh.toNatClampNeg).toInt := by rw [e36]
      have q37 : w37.toInt = 24 * hh.toInt + w36.toInt := by rw [addc e37 rfl (by omega) (by omega) (by omega) (by omega), q30]
      have cn : (c.toNatClampNeg : Int) = c.toInt := n_clamp I1
      exact ⟨rfl, SP.rf W, fun _ _ _ => rfl, ShI.rf (by omega), ShL.rf (by omega), ShL.rf (by omega), ShI.rf (by omega), ShI.rf (by omega)⟩
    · obtain ⟨n12, l12, h⟩ := v_al h (by decide +kernel : pins 163 41 = some (5, 42, 0, 0, [])) (v := t) rfl
      obtain ⟨n13, l13, h⟩ := w_row (k := 33) W h (by decide +kernel : pins 163 42 = some (22, 45, 13, 33, [])) (by decide)
      obtain ⟨n14, l14, h⟩ := v_il h (by decide +kernel : pins 163 45 = some (3, 46, 3, 0, [])) (v := c) rfl
      obtain ⟨n15, l15, h⟩ := v_al h (by decide +kernel : pins 163 46 = some (5, 47, 0, 0, [])) (v := t) rfl
      obtain ⟨n16, l16, h⟩ := w_row (k := 33) W h (by decide +kernel : pins 163 47 = some (22, 50, 13, 33, [])) (by decide)
      obtain ⟨n17, l17, h⟩ := v_il h (by decide +kernel : pins 163 50 = some (3, 51, 3, 0, [])) (v := c) rfl
      obtain ⟨n18, w51, l18, ⟨e51, i51⟩, h⟩ := u_ic h (by decide +kernel : pins 163 51 = some (0, 52, 1, 0, [])) (by decide)
      obtain ⟨n19, w52, l19, e52, h⟩ := u_add h (by decide +kernel : pins 163 52 = some (10, 53, 0, 0, []))
      obtain ⟨n20, w53, l20, b53, e53, h⟩ := w_iald W h (by decide +kernel : pins 163 53 = some (24, 54, 0, 0, [])) (by decide)
      obtain ⟨n21, s54, l21, b54, S54, u54, h⟩ := w_iast W h (by decide +kernel : pins 163 54 = some (28, 55, 0, 0, [])) (by decide)
      obtain ⟨n22, l22, h⟩ := v_al h (by decide +kernel : pins 163 55 = some (5, 56, 0, 0, [])) (v := t) rfl
      obtain ⟨n23, l23, h⟩ := w_row (k := 34) S54.1 h (by decide +kernel : pins 163 56 = some (22, 59, 13, 34, [])) (by decide)
      obtain ⟨n24, l24, h⟩ := v_il h (by decide +kernel : pins 163 59 = some (3, 60, 3, 0, [])) (v := c) rfl
      obtain ⟨n25, l25, h⟩ := v_al h (by decide +kernel : pins 163 60 = some (5, 61, 0, 0, [])) (v := t) rfl
      obtain ⟨n26, l26, h⟩ := w_row (k := 34) S54.1 h (by decide +kernel : pins 163 61 = some (22, 64, 13, 34, [])) (by decide)
      obtain ⟨n27, l27, h⟩ := v_il h (by decide +kernel : pins 163 64 = some (3, 65, 3, 0, [])) (v := c) rfl
      obtain ⟨n28, w65, l28, ⟨e65, i65⟩, h⟩ := u_ic h (by decide +kernel : pins 163 65 = some (0, 66, 1, 0, [])) (by decide)
      obtain ⟨n29, w66, l29, e66, h⟩ := u_add h (by decide +kernel : pins 163 66 = some (10, 67, 0, 0, []))
      obtain ⟨n30, w67, l30, b67, e67, h⟩ := w_iald S54.1 h (by decide +kernel : pins 163 67 = some (24, 68, 0, 0, [])) (by decide)
      obtain ⟨n31, s68, l31, b68, S68, u68, h⟩ := w_iast S54.1 h (by decide +kernel : pins 163 68 = some (28, 69, 0, 0, [])) (by decide)
      obtain ⟨n32, l32, h⟩ := v_al h (by decide +kernel : pins 163 69 = some (5, 70, 0, 0, [])) (v := t) rfl
      obtain ⟨n33, l33, h⟩ := w_row (k := 35) S68.1 h (by decide +kernel : pins 163 70 = some (22, 73, 13, 35, [])) (by decide)
      obtain ⟨n34, l34, h⟩ := v_il h (by decide +kernel : pins 163 73 = some (3, 74, 3, 0, [])) (v := c) rfl
      obtain ⟨n35, l35, h⟩ := v_al h (by decide +kernel : pins 163 74 = some (5, 75, 0, 0, [])) (v := t) rfl
      obtain ⟨n36, l36, h⟩ := w_row (k := 35) S68.1 h (by decide +kernel : pins 163 75 = some (22, 78, 13, 35, [])) (by decide)
      obtain ⟨n37, l37, h⟩ := v_il h (by decide +kernel : pins 163 78 = some (3, 79, 3, 0, [])) (v := c) rfl
      obtain ⟨n38, w79, l38, ⟨e79, i79⟩, h⟩ := u_ic h (by decide +kernel : pins 163 79 = some (0, 80, 1, 0, [])) (by decide)
      obtain ⟨n39, w80, l39, e80, h⟩ := u_add h (by decide +kernel : pins 163 80 = some (10, 81, 0, 0, []))
      obtain ⟨n40, w81, l40, b81, e81, h⟩ := w_iald S68.1 h (by decide +kernel : pins 163 81 = some (24, 82, 0, 0, [])) (by decide)
      obtain ⟨n41, s82, l41, b82, S82, u82, h⟩ := w_iast S68.1 h (by decide +kernel : pins 163 82 = some (28, 83, 0, 0, [])) (by decide)
      obtain ⟨n42, l42, h⟩ := v_al h (by decide +kernel : pins 163 83 = some (5, 84, 0, 0, [])) (v := t) rfl
      obtain ⟨n43, l43, h⟩ := w_row (k := 36) S82.1 h (by decide +kernel : pins 163 84 = some (22, 87, 13, 36, [])) (by decide)
      obtain ⟨n44, l44, h⟩ := v_il h (by decide +kernel : pins 163 87 = some (3, 88, 3, 0, [])) (v := c) rfl
      obtain ⟨n45, l45, h⟩ := v_al h (by decide +kernel : pins 163 88 = some (5, 89, 0, 0, [])) (v := t) rfl
      obtain ⟨n46, l46, h⟩ := w_row (k := 36) S82.1 h (by decide +kernel : pins 163 89 = some (22, 92, 13, 36, [])) (by decide)
      obtain ⟨n47, l47, h⟩ := v_il h (by decide +kernel : pins 163 92 = some (3, 93, 3, 0, [])) (v := c) rfl
      obtain ⟨n48, w93, l48, ⟨e93, i93⟩, h⟩ := u_ic h (by decide +kernel : pins 163 93 = some (0, 94, 1, 0, [])) (by decide)
      obtain ⟨n49, w94, l49, e94, h⟩ := u_add h (by decide +kernel : pins 163 94 = some (10, 95, 0, 0, []))
      obtain ⟨n50, w95, l50, b95, e95, h⟩ := w_lald S82.1 h (by decide +kernel : pins 163 95 = some (26, 96, 0, 0, [])) (by decide)
      obtain ⟨n51, s96, l51, b96, S96, u96, h⟩ := w_last S82.1 h (by decide +kernel : pins 163 96 = some (30, 97, 0, 0, [])) (by decide)
      obtain ⟨n52, l52, h⟩ := v_al h (by decide +kernel : pins 163 97 = some (5, 98, 0, 0, [])) (v := t) rfl
      obtain ⟨n53, l53, h⟩ := w_row (k := 37) S96.1 h (by decide +kernel : pins 163 98 = some (22, 101, 13, 37, [])) (by decide)
      obtain ⟨n54, l54, h⟩ := v_il h (by decide +kernel : pins 163 101 = some (3, 102, 3, 0, [])) (v := c) rfl
      obtain ⟨n55, l55, h⟩ := v_al h (by decide +kernel : pins 163 102 = some (5, 103, 0, 0, [])) (v := t) rfl
      obtain ⟨n56, l56, h⟩ := w_row (k := 37) S96.1 h (by decide +kernel : pins 163 103 = some (22, 106, 13, 37, [])) (by decide)
      obtain ⟨n57, l57, h⟩ := v_il h (by decide +kernel : pins 163 106 = some (3, 107, 3, 0, [])) (v := c) rfl
      obtain ⟨n58, w107, l58, ⟨e107, i107⟩, h⟩ := u_ic h (by decide +kernel : pins 163 107 = some (0, 108, 1, 0, [])) (by decide)
      obtain ⟨n59, w108, l59, e108, h⟩ := u_add h (by decide +kernel : pins 163 108 = some (10, 109, 0, 0, []))
      obtain ⟨n60, w109, l60, b109, e109, h⟩ := w_lald S96.1 h (by decide +kernel : pins 163 109 = some (26, 110, 0, 0, [])) (by decide)
      obtain ⟨n61, s110, l61, b110, S110, u110, h⟩ := w_last S96.1 h (by decide +kernel : pins 163 110 = some (30, 111, 0, 0, [])) (by decide)
      obtain ⟨n62, l62, h⟩ := v_al h (by decide +kernel : pins 163 111 = some (5, 112, 0, 0, [])) (v := t) rfl
      obtain ⟨n63, l63, h⟩ := w_row (k := 38) S110.1 h (by decide +kernel : pins 163 112 = some (22, 115, 13, 38, [])) (by decide)
      obtain ⟨n64, l64, h⟩ := v_il h (by decide +kernel : pins 163 115 = some (3, 116, 3, 0, [])) (v := c) rfl
      obtain ⟨n65, l65, h⟩ := v_al h (by decide +kernel : pins 163 116 = some (5, 117, 0, 0, [])) (v := t) rfl
      obtain ⟨n66, l66, h⟩ := w_row (k := 38) S110.1 h (by decide +kernel : pins 163 117 = some (22, 120, 13, 38, [])) (by decide)
      obtain ⟨n67, l67, h⟩ := v_il h (by decide +kernel : pins 163 120 = some (3, 121, 3, 0, [])) (v := c) rfl
      obtain ⟨n68, w121, l68, ⟨e121, i121⟩, h⟩ := u_ic h (by decide +kernel : pins 163 121 = some (0, 122, 1, 0, [])) (by decide)
      obtain ⟨n69, w122, l69, e122, h⟩ := u_add h (by decide +kernel : pins 163 122 = some (10, 123, 0, 0, []))
      obtain ⟨n70, w123, l70, b123, e123, h⟩ := w_bald S110.1 h (by decide +kernel : pins 163 123 = some (25, 124, 0, 0, [])) (by decide)
      obtain ⟨n71, s124, l71, b124, S124, u124, h⟩ := w_bast S110.1 h (by decide +kernel : pins 163 124 = some (29, 125, 0, 0, [])) (by decide) (by decide)
      obtain ⟨n72, l72, h⟩ := v_al h (by decide +kernel : pins 163 125 = some (5, 126, 0, 0, [])) (v := t) rfl
      obtain ⟨n73, l73, h⟩ := w_row (k := 39) S124.1 h (by decide +kernel : pins 163 126 = some (22, 129, 13, 39, [])) (by decide)
      obtain ⟨n74, l74, h⟩ := v_il h (by decide +kernel : pins 163 129 = some (3, 130, 3, 0, [])) (v := c) rfl
      obtain ⟨n75, l75, h⟩ := v_al h (by decide +kernel : pins 163 130 = some (5, 131, 0, 0, [])) (v := t) rfl
      obtain ⟨n76, l76, h⟩ := w_row (k := 39) S124.1 h (by decide +kernel : pins 163 131 = some (22, 134, 13, 39, [])) (by decide)
      obtain ⟨n77, l77, h⟩ := v_il h (by decide +kernel : pins 163 134 = some (3, 135, 3, 0, [])) (v := c) rfl
      obtain ⟨n78, w135, l78, ⟨e135, i135⟩, h⟩ := u_ic h (by decide +kernel : pins 163 135 = some (0, 136, 1, 0, [])) (by decide)
      obtain ⟨n79, w136, l79, e136, h⟩ := u_add h (by decide +kernel : pins 163 136 = some (10, 137, 0, 0, []))
      obtain ⟨n80, w137, l80, b137, e137, h⟩ := w_iald S124.1 h (by decide +kernel : pins 163 137 = some (24, 138, 0, 0, [])) (by decide)
      obtain ⟨n81, s138, l81, b138, S138, u138, h⟩ := w_iast S124.1 h (by decide +kernel : pins 163 138 = some (28, 139, 0, 0, [])) (by decide)
      obtain ⟨n82, l82, h⟩ := v_al h (by decide +kernel : pins 163 139 = some (5, 140, 0, 0, [])) (v := t) rfl
      obtain ⟨n83, l83, h⟩ := w_row (k := 40) S138.1 h (by decide +kernel : pins 163 140 = some (22, 143, 13, 40, [])) (by decide)
      obtain ⟨n84, w143, l84, ⟨e143, i143⟩, h⟩ := u_ic h (by decide +kernel : pins 163 143 = some (0, 145, 16, 0, [])) (by decide)
      obtain ⟨n85, l85, h⟩ := v_il h (by decide +kernel : pins 163 145 = some (3, 146, 3, 0, [])) (v := c) rfl
      obtain ⟨n86, w146, l86, e146, h⟩ := u_mul h (by decide +kernel : pins 163 146 = some (10, 147, 2, 0, []))
      obtain ⟨n87, w147, l87, ⟨e147, i147⟩, h⟩ := u_ic h (by decide +kernel : pins 163 147 = some (0, 149, 16, 0, [])) (by decide)
      obtain ⟨n88, w149, l88, e149, h⟩ := u_add h (by decide +kernel : pins 163 149 = some (10, 150, 0, 0, []))
      obtain ⟨n89, l89, h⟩ := v_al h (by decide +kernel : pins 163 150 = some (5, 151, 0, 0, [])) (v := t) rfl
      obtain ⟨n90, l90, h⟩ := w_row (k := 40) S138.1 h (by decide +kernel : pins 163 151 = some (22, 154, 13, 40, [])) (by decide)
      obtain ⟨n91, w154, l91, ⟨e154, i154⟩, h⟩ := u_ic h (by decide +kernel : pins 163 154 = some (0, 156, 16, 0, [])) (by decide)
      obtain ⟨n92, l92, h⟩ := v_il h (by decide +kernel : pins 163 156 = some (3, 157, 3, 0, [])) (v := c) rfl
      obtain ⟨n93, w157, l93, e157, h⟩ := u_mul h (by decide +kernel : pins 163 157 = some (10, 158, 2, 0, []))
      obtain ⟨n94, r158, s158, l94, h158, h⟩ := pinv_call h (by decide +kernel : pins 163 158 = some (36, 161, 142, 1, [4]))
      have h158 : prun n94 142 0 (lv_args 0 [.ref (A 40), .int w149, .ref (A 40), .int w157]) [] s138 = some (r158, s158) := h158
      obtain ⟨er158, S158, f158⟩ := pc_copy S138.1 h158 (by decide) (by decide)
      have er158 : r158 = none := er158
      subst er158
      try dsimp only at S158
      try dsimp only at f158
      have h : prun n94 163 161 [(3, .int c), (0, .ref t), (1, .int hh), (2, .int k)] [] s158 = some x := h
      obtain ⟨n95, l95, h⟩ := v_al h (by decide +kernel : pins 163 161 = some (5, 162, 0, 0, [])) (v := t) rfl
      obtain ⟨n96, l96, h⟩ := w_row (k := 41) S158.1 h (by decide +kernel : pins 163 162 = some (22, 165, 13, 41, [])) (by decide)
      obtain ⟨n97, w165, l97, ⟨e165, i165⟩, h⟩ := u_ic h (by decide +kernel : pins 163 165 = some (0, 167, 16, 0, [])) (by decide)
      obtain ⟨n98, l98, h⟩ := v_il h (by decide +kernel : pins 163 167 = some (3, 168, 3, 0, [])) (v := c) rfl
      obtain ⟨n99, w168, l99, e168, h⟩ := u_mul h (by decide +kernel : pins 163 168 = some (10, 169, 2, 0, []))
      obtain ⟨n100, w169, l100, ⟨e169, i169⟩, h⟩ := u_ic h (by decide +kernel : pins 163 169 = some (0, 171, 16, 0, [])) (by decide)
      obtain ⟨n101, w171, l101, e171, h⟩ := u_add h (by decide +kernel : pins 163 171 = some (10, 172, 0, 0, []))
      obtain ⟨n102, l102, h⟩ := v_al h (by decide +kernel : pins 163 172 = some (5, 173, 0, 0, [])) (v := t) rfl
      obtain ⟨n103, l103, h⟩ := w_row (k := 41) S158.1 h (by decide +kernel : pins 163 173 = some (22, 176, 13, 41, [])) (by decide)
      obtain ⟨n104, w176, l104, ⟨e176, i176⟩, h⟩ := u_ic h (by decide +kernel : pins 163 176 = some (0, 178, 16, 0, [])) (by decide)
      obtain ⟨n105, l105, h⟩ := v_il h (by decide +kernel : pins 163 178 = some (3, 179, 3, 0, [])) (v := c) rfl
      obtain ⟨n106, w179, l106, e179, h⟩ := u_mul h (by decide +kernel : pins 163 179 = some (10, 180, 2, 0, []))
      obtain ⟨n107, r180, s180, l107, h180, h⟩ := pinv_call h (by decide +kernel : pins 163 180 = some (36, 183, 142, 1, [4]))
      have h180 : prun n107 142 0 (lv_args 0 [.ref (A 41), .int w171, .ref (A 41), .int w179]) [] s158 = some (r180, s180) := h180
      obtain ⟨er180, S180, f180⟩ := pc_copy S158.1 h180 (by decide) (by decide)
      have er180 : r180 = none := er180
      subst er180
      try dsimp only at S180
      try dsimp only at f180
      have h : prun n107 163 183 [(3, .int c), (0, .ref t), (1, .int hh), (2, .int k)] [] s180 = some x := h
      obtain ⟨n108, w183, l108, e183, h⟩ := u_inc h (by decide +kernel : pins 163 183 = some (9, 186, 3, 1, [])) (v := c) rfl
      have h : prun n108 163 186 [(3, .int w183), (0, .ref t), (1, .int hh), (2, .int k)] [] s180 = some x := h
      obtain ⟨n109, l109, h⟩ := u_go h (by decide +kernel : pins 163 186 = some (20, 189, 0, ((26 : Nat) : Int), []))
      have h := prun_lv h (lv' := [(3, .int w183), (0, .ref t), (1, .int hh), (2, .int k)]) (lvLe.cons (lvLe.cons (lvLe.cons (lvLe.cons lvLe.nil rfl) rfl) rfl) rfl) (by decide : ([3, 0, 1, 2] : List Nat).Nodup) (by decide : ([3, 0, 1, 2] : List Nat).Nodup)
      have q30 : w30.toInt = 24 * hh.toInt := by rw [e30, n_mul (by rw [i27]; omega) (by rw [i27]; omega), i27]
      have hn : (hh.toNatClampNeg : Int) = hh.toInt := n_clamp hh0.1
      have q36 : w36.toInt = (gI (vw t A σ) 32 hh.toNatClampNeg).toInt := by rw [e36]
      have q37 : w37.toInt = 24 * hh.toInt + w36.toInt := by rw [addc e37 rfl (by omega) (by omega) (by omega) (by omega), q30]
      have cn : (c.toNatClampNeg : Int) = c.toInt := n_clamp I1
      have q183 : w183.toInt = c.toInt + 1 := addc e183 (by decide : (Int32.ofInt 1).toInt = 1) (by omega) (by omega) (by decide) (by decide)
      have cn1 : w183.toNatClampNeg = c.toNatClampNeg + 1 := by rw [clampc q183 (by omega)]; omega
      have q80 : w80.toInt = c.toInt + 1 := addc e80 i79 (by omega) (by omega) (by decide) (by decide)
      have n80x : w80.toNatClampNeg = c.toNatClampNeg + 1 := by rw [clampc q80 (by omega)]; omega
      have q94 : w94.toInt = c.toInt + 1 := addc e94 i93 (by omega) (by omega) (by decide) (by decide)
      have n94x : w94.toNatClampNeg = c.toNatClampNeg + 1 := by rw [clampc q94 (by omega)]; omega
      have q108 : w108.toInt = c.toInt + 1 := addc e108 i107 (by omega) (by omega) (by decide) (by decide)
      have n108x : w108.toNatClampNeg = c.toNatClampNeg + 1 := by rw [clampc q108 (by omega)]; omega
      have q122 : w122.toInt = c.toInt + 1 := addc e122 i121 (by omega) (by omega) (by decide) (by decide)
      have n122x : w122.toNatClampNeg = c.toNatClampNeg + 1 := by rw [clampc q122 (by omega)]; omega
      have q136 : w136.toInt = c.toInt + 1 := addc e136 i135 (by omega) (by omega) (by decide) (by decide)
      have n136x : w136.toNatClampNeg = c.toNatClampNeg + 1 := by rw [clampc q136 (by omega)]; omega
      have fr : ∀ j q : Nat, ¬ (33 ≤ j ∧ j ≤ 41) → vw t A s180 j q = vw t A σ j q := fun j q hj => by rw [f180 j q (by omega), f158 j q (by omega), u138, up_ne (by omega), u124, up_ne (by omega), u110, up_ne (by omega), u96, up_ne (by omega), u82, up_ne (by omega), u68, up_ne (by omega), u54, up_ne (by omega)]
      have e32 : gI (vw t A s180) 32 hh.toNatClampNeg = gI (vw t A σ) 32 hh.toNatClampNeg := by unfold gI; rw [fr 32 _ (by decide)]
      have b123 : 0 ≤ w122.toInt ∧ w122.toInt < 192 := b123
      have v123 : w123 = gI (vw t A σ) 38 (c.toNatClampNeg + 1) := by rw [e123, n122x, u110, gI_ne (by decide), u96, gI_ne (by decide), u82, gI_ne (by decide), u68, gI_ne (by decide), u54, gI_ne (by decide)]
      have r123 : vp_nar .boolean w123 = w123 := by have := hB (c.toNatClampNeg + 1) (by omega); exact nar_bo (by rw [v123]; exact this.1) (by rw [v123]; exact this.2)
      have k38 : ∀ q, ¬ q = c.toNatClampNeg → gI (vw t A s180) 38 q = gI (vw t A σ) 38 q := fun q hq => by unfold gI; rw [f180 38 q (by decide), f158 38 q (by decide), u138, up_ne (by decide), u124, up_ni (by decide) hq, u110, up_ne (by decide), u96, up_ne (by decide), u82, up_ne (by decide), u68, up_ne (by decide), u54, up_ne (by decide)]
      have z38 : gI (vw t A s180) 38 c.toNatClampNeg = gI (vw t A σ) 38 (c.toNatClampNeg + 1) := by rw [← v123]; unfold gI; rw [f180 38 _ (by decide), f158 38 _ (by decide), u138, up_ne (by decide), u124, up_eq, r123]; rfl
      have hB2 : ∀ q : Nat, q < 192 → 0 ≤ (gI (vw t A s180) 38 q).toInt ∧ (gI (vw t A s180) 38 q).toInt ≤ 1 := by
        intro q hq
        by_cases e : q = c.toNatClampNeg
        · rw [e, z38]; exact hB _ (by omega)
        · rw [k38 q e]; exact hB q hq
      obtain ⟨y1, y2, y3, a35, a36, a37, a38, a39⟩ := ih n109 (by omega) _ _ x S180.1 ⟨by omega, by rw [e32]; exact I2, hB2⟩ h
      rw [e32, cn1] at a35 a36 a37 a38 a39
      refine ⟨y1, ((((((((S54.tr S68).tr S82).tr S96).tr S110).tr S124).tr S138).tr S158).tr S180).tr y2, fun j q hj => (y3 j q hj).trans (fr j q hj), ShI.tr (by omega) ?_ ?_ a35, ShL.tr (by omega) ?_ ?_ a36, ShL.tr (by omega) ?_ ?_ a37, ShI.tr (by omega) z38 k38 a38, ShI.tr (by omega) ?_ ?_ a39⟩
      · unfold gI
        rw [f180 35 _ (by decide), f158 35 _ (by decide), u138, up_ne (by decide), u124, up_ne (by decide), u110, up_ne (by decide), u96, up_ne (by decide), u82, up_eq, e81, n80x, u68, gI_ne (by decide), u54, gI_ne (by decide)]
        rfl
      · intro q hq
        unfold gI
        rw [f180 35 _ (by decide), f158 35 _ (by decide), u138, up_ne (by decide), u124, up_ne (by decide), u110, up_ne (by decide), u96, up_ne (by decide), u82, up_ni (by decide) hq, u68, up_ne (by decide), u54, up_ne (by decide)]
      · unfold gL
        rw [f180 36 _ (by decide), f158 36 _ (by decide), u138, up_ne (by decide), u124, up_ne (by decide), u110, up_ne (by decide), u96, up_eq, e95, n94x, u82, gL_ne (by decide), u68, gL_ne (by decide), u54, gL_ne (by decide)]
        rfl
      · intro q hq
        unfold gL
        rw [f180 36 _ (by decide), f158 36 _ (by decide), u138, up_ne (by decide), u124, up_ne (by decide), u110, up_ne (by decide), u96, up_ni (by decide) hq, u82, up_ne (by decide), u68, up_ne (by decide), u54, up_ne (by decide)]
      · unfold gL
        rw [f180 37 _ (by decide), f158 37 _ (by decide), u138, up_ne (by decide), u124, up_ne (by decide), u110, up_eq, e109, n108x, u96, gL_ne (by decide), u82, gL_ne (by decide), u68, gL_ne (by decide), u54, gL_ne (by decide)]
        rfl
      · intro q hq
        unfold gL
        rw [f180 37 _ (by decide), f158 37 _ (by decide), u138, up_ne (by decide), u124, up_ne (by decide), u110, up_ni (by decide) hq, u96, up_ne (by decide), u82, up_ne (by decide), u68, up_ne (by decide), u54, up_ne (by decide)]
      · unfold gI
        rw [f180 39 _ (by decide), f158 39 _ (by decide), u138, up_eq, e137, n136x, u124, gI_ne (by decide), u110, gI_ne (by decide), u96, gI_ne (by decide), u82, gI_ne (by decide), u68, gI_ne (by decide), u54, gI_ne (by decide)]
        rfl
      · intro q hq
        unfold gI
        rw [f180 39 _ (by decide), f158 39 _ (by decide), u138, up_ni (by decide) hq, u124, up_ne (by decide), u110, up_ne (by decide), u96, up_ne (by decide), u82, up_ne (by decide), u68, up_ne (by decide), u54, up_ne (by decide)]
theorem pc_en_q {t : Nat} {A : Nat → Nat} {hh k : Int32} : ∀ (n : Nat) (c is : Int32) (σ : ps) (x : Option Value × ps), Wld t A σ → (True) → prun n 163 207 [(4, .int c), (3, .int is), (0, .ref t), (1, .int hh), (2, .int k)] [] σ = some x → ∃ (m : Nat) (c2 is2 : Int32), prun m 163 272 [(4, .int c2), (3, .int is2), (0, .ref t), (1, .int hh), (2, .int k)] [] σ = some x := by
  intro n
  induction n using Nat.strongRecOn with
  | ind n ih =>
    intro c is σ x W I h
    obtain ⟨n1, l1, h⟩ := v_il h (by decide +kernel : pins 163 207 = some (3, 209, 4, 0, [])) (v := c) rfl
    obtain ⟨n2, w209, l2, ⟨e209, i209⟩, h⟩ := u_ic h (by decide +kernel : pins 163 209 = some (0, 210, 4, 0, [])) (by decide)
    obtain ⟨n3, l3, h⟩ := v_il h (by decide +kernel : pins 163 210 = some (3, 211, 1, 0, [])) (v := hh) rfl
    obtain ⟨n4, w211, l4, e211, h⟩ := u_mul h (by decide +kernel : pins 163 211 = some (10, 212, 2, 0, []))
    obtain ⟨n5, w212, l5, ⟨e212, i212⟩, h⟩ := u_ic h (by decide +kernel : pins 163 212 = some (0, 213, 4, 0, [])) (by decide)
    obtain ⟨n6, w213, l6, e213, h⟩ := u_add h (by decide +kernel : pins 163 213 = some (10, 214, 0, 0, []))
    obtain ⟨n7, l7, ⟨c214, h⟩ | ⟨c214, h⟩⟩ := u_ic3 h (by decide +kernel : pins 163 214 = some (17, 217, 3, ((272 : Nat) : Int), []))
    · have h := prun_lv h (lv' := [(4, .int c), (3, .int is), (0, .ref t), (1, .int hh), (2, .int k)]) (lvLe.cons (lvLe.cons (lvLe.cons (lvLe.cons (lvLe.cons lvLe.nil rfl) rfl) rfl) rfl) rfl) (by decide : ([4, 3, 0, 1, 2] : List Nat).Nodup) (by decide : ([4, 3, 0, 1, 2] : List Nat).Nodup)
      exact ⟨_, _, _, h⟩
    · obtain ⟨n8, l8, h⟩ := v_il h (by decide +kernel : pins 163 217 = some (3, 218, 3, 0, [])) (v := is) rfl
      obtain ⟨n9, l9, ⟨c218, h⟩ | ⟨c218, h⟩⟩ := u_if1 h (by decide +kernel : pins 163 218 = some (16, 221, 1, ((260 : Nat) : Int), []))
      · obtain ⟨n10, w260, l10, ⟨e260, i260⟩, h⟩ := u_ic h (by decide +kernel : pins 163 260 = some (0, 261, 1, 0, [])) (by decide)
        obtain ⟨n11, l11, h⟩ := u_go h (by decide +kernel : pins 163 261 = some (20, 264, 0, ((265 : Nat) : Int), []))
        obtain ⟨n12, l12, h⟩ := v_is h (by decide +kernel : pins 163 265 = some (6, 266, 3, 0, []))
        have h : prun n12 163 266 [(3, .int w260), (4, .int c), (0, .ref t), (1, .int hh), (2, .int k)] [] σ = some x := h
        obtain ⟨n13, w266, l13, e266, h⟩ := u_inc h (by decide +kernel : pins 163 266 = some (9, 269, 4, 1, [])) (v := c) rfl
        have h : prun n13 163 269 [(4, .int w266), (3, .int w260), (0, .ref t), (1, .int hh), (2, .int k)] [] σ = some x := h
        obtain ⟨n14, l14, h⟩ := u_go h (by decide +kernel : pins 163 269 = some (20, 272, 0, ((207 : Nat) : Int), []))
        have h := prun_lv h (lv' := [(4, .int w266), (3, .int w260), (0, .ref t), (1, .int hh), (2, .int k)]) (lvLe.cons (lvLe.cons (lvLe.cons (lvLe.cons (lvLe.cons lvLe.nil rfl) rfl) rfl) rfl) rfl) (by decide : ([4, 3, 0, 1, 2] : List Nat).Nodup) (by decide : ([4, 3, 0, 1, 2] : List Nat).Nodup)
        exact ih n14 (by omega) _ _ _ x W trivial h
      · obtain ⟨n15, l15, h⟩ := v_al h (by decide +kernel : pins 163 221 = some (5, 222, 0, 0, [])) (v := t) rfl
        obtain ⟨n16, l16, h⟩ := w_row (k := 26) W h (by decide +kernel : pins 163 222 = some (22, 225, 13, 26, [])) (by decide)
        obtain ⟨n17, l17, h⟩ := v_il h (by decide +kernel : pins 163 225 = some (3, 227, 4, 0, [])) (v := c) rfl
        obtain ⟨n18, w227, l18, b227, e227, h⟩ := w_iald W h (by decide +kernel : pins 163 227 = some (24, 228, 0, 0, [])) (by decide)
        obtain ⟨n19, l19, h⟩ := v_al h (by decide +kernel : pins 163 228 = some (5, 229, 0, 0, [])) (v := t) rfl
        obtain ⟨n20, l20, h⟩ := w_row (k := 33) W h (by decide +kernel : pins 163 229 = some (22, 232, 13, 33, [])) (by decide)
        obtain ⟨n21, l21, h⟩ := v_il h (by decide +kernel : pins 163 232 = some (3, 233, 2, 0, [])) (v := k) rfl
        obtain ⟨n22, w233, l22, b233, e233, h⟩ := w_iald W h (by decide +kernel : pins 163 233 = some (24, 234, 0, 0, [])) (by decide)
        obtain ⟨n23, l23, ⟨c234, h⟩ | ⟨c234, h⟩⟩ := u_ic1 h (by decide +kernel : pins 163 234 = some (17, 237, 1, ((264 : Nat) : Int), []))
        · obtain ⟨n24, w264, l24, ⟨e264, i264⟩, h⟩ := u_ic h (by decide +kernel : pins 163 264 = some (0, 265, 0, 0, [])) (by decide)
          obtain ⟨n25, l25, h⟩ := v_is h (by decide +kernel : pins 163 265 = some (6, 266, 3, 0, []))
          have h : prun n25 163 266 [(3, .int w264), (4, .int c), (0, .ref t), (1, .int hh), (2, .int k)] [] σ = some x := h
          obtain ⟨n26, w266, l26, e266, h⟩ := u_inc h (by decide +kernel : pins 163 266 = some (9, 269, 4, 1, [])) (v := c) rfl
          have h : prun n26 163 269 [(4, .int w266), (3, .int w264), (0, .ref t), (1, .int hh), (2, .int k)] [] σ = some x := h
          obtain ⟨n27, l27, h⟩ := u_go h (by decide +kernel : pins 163 269 = some (20, 272, 0, ((207 : Nat) : Int), []))
          have h := prun_lv h (lv' := [(4, .int w266), (3, .int w264), (0, .ref t), (1, .int hh), (2, .int k)]) (lvLe.cons (lvLe.cons (lvLe.cons (lvLe.cons (lvLe.cons lvLe.nil rfl) rfl) rfl) rfl) rfl) (by decide : ([4, 3, 0, 1, 2] : List Nat).Nodup) (by decide : ([4, 3, 0, 1, 2] : List Nat).Nodup)
          exact ih n27 (by omega) _ _ _ x W trivial h
        · obtain ⟨n28, l28, h⟩ := v_al h (by decide +kernel : pins 163 237 = some (5, 238, 0, 0, [])) (v := t) rfl
          obtain ⟨n29, l29, h⟩ := w_row (k := 25) W h (by decide +kernel : pins 163 238 = some (22, 241, 13, 25, [])) (by decide)
          obtain ⟨n30, w241, l30, ⟨e241, i241⟩, h⟩ := u_ic h (by decide +kernel : pins 163 241 = some (0, 243, 16, 0, [])) (by decide)
          obtain ⟨n31, l31, h⟩ := v_il h (by decide +kernel : pins 163 243 = some (3, 245, 4, 0, [])) (v := c) rfl
          obtain ⟨n32, w245, l32, e245, h⟩ := u_mul h (by decide +kernel : pins 163 245 = some (10, 246, 2, 0, []))
          obtain ⟨n33, l33, h⟩ := v_al h (by decide +kernel : pins 163 246 = some (5, 247, 0, 0, [])) (v := t) rfl
          obtain ⟨n34, l34, h⟩ := w_row (k := 40) W h (by decide +kernel : pins 163 247 = some (22, 250, 13, 40, [])) (by decide)
          obtain ⟨n35, w250, l35, ⟨e250, i250⟩, h⟩ := u_ic h (by decide +kernel : pins 163 250 = some (0, 252, 16, 0, [])) (by decide)
          obtain ⟨n36, l36, h⟩ := v_il h (by decide +kernel : pins 163 252 = some (3, 253, 2, 0, [])) (v := k) rfl
          obtain ⟨n37, w253, l37, e253, h⟩ := u_mul h (by decide +kernel : pins 163 253 = some (10, 254, 2, 0, []))
          obtain ⟨n38, r254, s254, l38, h254, h⟩ := pinv_call h (by decide +kernel : pins 163 254 = some (36, 257, 140, 1, [4]))
          have h254 : prun n38 140 0 (lv_args 0 [.ref (A 25), .int w245, .ref (A 40), .int w253]) [] σ = some (r254, s254) := h254
          obtain ⟨es254, w254, er254, f254⟩ := pc_alike0 W h254 (by decide) (by decide)
          have er254 : r254 = some (.int w254) := er254
          have et254 : s254 = σ := es254
          rw [et254] at h
          subst er254
          have h : prun n38 163 257 [(4, .int c), (3, .int is), (0, .ref t), (1, .int hh), (2, .int k)] [.int w254] σ = some x := h
          obtain ⟨n39, l39, ⟨c257, h⟩ | ⟨c257, h⟩⟩ := u_if0 h (by decide +kernel : pins 163 257 = some (16, 260, 0, ((264 : Nat) : Int), []))
          · obtain ⟨n40, w264, l40, ⟨e264, i264⟩, h⟩ := u_ic h (by decide +kernel : pins 163 264 = some (0, 265, 0, 0, [])) (by decide)
            obtain ⟨n41, l41, h⟩ := v_is h (by decide +kernel : pins 163 265 = some (6, 266, 3, 0, []))
            have h : prun n41 163 266 [(3, .int w264), (4, .int c), (0, .ref t), (1, .int hh), (2, .int k)] [] σ = some x := h
            obtain ⟨n42, w266, l42, e266, h⟩ := u_inc h (by decide +kernel : pins 163 266 = some (9, 269, 4, 1, [])) (v := c) rfl
            have h : prun n42 163 269 [(4, .int w266), (3, .int w264), (0, .ref t), (1, .int hh), (2, .int k)] [] σ = some x := h
            obtain ⟨n43, l43, h⟩ := u_go h (by decide +kernel : pins 163 269 = some (20, 272, 0, ((207 : Nat) : Int), []))
            have h := prun_lv h (lv' := [(4, .int w266), (3, .int w264), (0, .ref t), (1, .int hh), (2, .int k)]) (lvLe.cons (lvLe.cons (lvLe.cons (lvLe.cons (lvLe.cons lvLe.nil rfl) rfl) rfl) rfl) rfl) (by decide : ([4, 3, 0, 1, 2] : List Nat).Nodup) (by decide : ([4, 3, 0, 1, 2] : List Nat).Nodup)
            exact ih n43 (by omega) _ _ _ x W trivial h
          · obtain ⟨n44, w260, l44, ⟨e260, i260⟩, h⟩ := u_ic h (by decide +kernel : pins 163 260 = some (0, 261, 1, 0, [])) (by decide)
            obtain ⟨n45, l45, h⟩ := u_go h (by decide +kernel : pins 163 261 = some (20, 264, 0, ((265 : Nat) : Int), []))
            obtain ⟨n46, l46, h⟩ := v_is h (by decide +kernel : pins 163 265 = some (6, 266, 3, 0, []))
            have h : prun n46 163 266 [(3, .int w260), (4, .int c), (0, .ref t), (1, .int hh), (2, .int k)] [] σ = some x := h
            obtain ⟨n47, w266, l47, e266, h⟩ := u_inc h (by decide +kernel : pins 163 266 = some (9, 269, 4, 1, [])) (v := c) rfl
            have h : prun n47 163 269 [(4, .int w266), (3, .int w260), (0, .ref t), (1, .int hh), (2, .int k)] [] σ = some x := h
            obtain ⟨n48, l48, h⟩ := u_go h (by decide +kernel : pins 163 269 = some (20, 272, 0, ((207 : Nat) : Int), []))
            have h := prun_lv h (lv' := [(4, .int w266), (3, .int w260), (0, .ref t), (1, .int hh), (2, .int k)]) (lvLe.cons (lvLe.cons (lvLe.cons (lvLe.cons (lvLe.cons lvLe.nil rfl) rfl) rfl) rfl) rfl) (by decide : ([4, 3, 0, 1, 2] : List Nat).Nodup) (by decide : ([4, 3, 0, 1, 2] : List Nat).Nodup)
            exact ih n48 (by omega) _ _ _ x W trivial h
theorem pc_entry1 {t n : Nat} {A : Nat → Nat} {hh k : Int32} {σ : ps} {x : Option Value × ps} (W : Wld t A σ) (h : prun n 163 0 (lv_args 0 [.ref t, .int hh, .int k]) [] σ = some x) (hh0 : 0 ≤ hh.toInt ∧ hh.toInt ≤ 7) (HA : 0 ≤ (gI (vw t A σ) 46 0).toInt ∧ (gI (vw t A σ) 46 0).toInt < 800) (HM : 0 ≤ (gI (vw t A σ) 47 0).toInt ∧ (gI (vw t A σ) 47 0).toInt ≤ 1000) (hk0 : 0 ≤ k.toInt ∧ k.toInt < 192) (hE : 1 ≤ (gI (vw t A σ) 32 hh.toNatClampNeg).toInt ∧ (gI (vw t A σ) 32 hh.toNatClampNeg).toInt ≤ 24) (hB : ∀ q : Nat, q < 192 → 0 ≤ (gI (vw t A σ) 38 q).toInt ∧ (gI (vw t A σ) 38 q).toInt ≤ 1) : x.1 = none ∧ SP t A σ x.2 ∧ En1 (vw t A σ) (vw t A x.2) hh.toNatClampNeg k.toNatClampNeg := by
  have h : prun n 163 0 [(0, .ref t), (1, .int hh), (2, .int k)] [] σ = some x := h
  obtain ⟨n1, l1, h⟩ := v_al h (by decide +kernel : pins 163 0 = some (5, 1, 0, 0, [])) (v := t) rfl
  obtain ⟨n2, l2, h⟩ := w_row (k := 37) W h (by decide +kernel : pins 163 1 = some (22, 4, 13, 37, [])) (by decide)
  obtain ⟨n3, l3, h⟩ := v_il h (by decide +kernel : pins 163 4 = some (3, 5, 2, 0, [])) (v := k) rfl
  obtain ⟨n4, w5, l4, b5, e5, h⟩ := w_lald W h (by decide +kernel : pins 163 5 = some (26, 6, 0, 0, [])) (by decide)
  obtain ⟨n5, l5, h⟩ := v_al h (by decide +kernel : pins 163 6 = some (5, 7, 0, 0, [])) (v := t) rfl
  obtain ⟨n6, w7, l6, e7, h⟩ := w_fl W h (by decide +kernel : pins 163 7 = some (22, 10, 13, 0, []))
  obtain ⟨n7, w10, l7, e10, h⟩ := u_lcmp h (by decide +kernel : pins 163 10 = some (12, 11, 0, 0, []))
  obtain ⟨n8, l8, ⟨c11, h⟩ | ⟨c11, h⟩⟩ := u_if4 h (by decide +kernel : pins 163 11 = some (16, 14, 4, ((190 : Nat) : Int), []))
  · obtain ⟨n9, l9, h⟩ := v_al h (by decide +kernel : pins 163 190 = some (5, 191, 0, 0, [])) (v := t) rfl
    obtain ⟨n10, l10, h⟩ := w_row (k := 39) W h (by decide +kernel : pins 163 191 = some (22, 194, 13, 39, [])) (by decide)
    obtain ⟨n11, l11, h⟩ := v_il h (by decide +kernel : pins 163 194 = some (3, 195, 2, 0, [])) (v := k) rfl
    obtain ⟨n12, l12, h⟩ := v_dup2 h (by decide +kernel : pins 163 195 = some (35, 196, 0, 0, []))
    obtain ⟨n13, w196, l13, b196, e196, h⟩ := w_iald W h (by decide +kernel : pins 163 196 = some (24, 197, 0, 0, [])) (by decide)
    obtain ⟨n14, w197, l14, ⟨e197, i197⟩, h⟩ := u_ic h (by decide +kernel : pins 163 197 = some (0, 198, 1, 0, [])) (by decide)
    obtain ⟨n15, w198, l15, e198, h⟩ := u_add h (by decide +kernel : pins 163 198 = some (10, 199, 0, 0, []))
    obtain ⟨n16, s199, l16, b199, S199, u199, h⟩ := w_iast W h (by decide +kernel : pins 163 199 = some (28, 200, 0, 0, [])) (by decide)
    obtain ⟨n17, w200, l17, ⟨e200, i200⟩, h⟩ := u_ic h (by decide +kernel : pins 163 200 = some (0, 201, 0, 0, [])) (by decide)
    obtain ⟨n18, l18, h⟩ := v_is h (by decide +kernel : pins 163 201 = some (6, 202, 3, 0, []))
    have h : prun n18 163 202 [(3, .int w200), (0, .ref t), (1, .int hh), (2, .int k)] [] s199 = some x := h
    obtain ⟨n19, w202, l19, ⟨e202, i202⟩, h⟩ := u_ic h (by decide +kernel : pins 163 202 = some (0, 203, 4, 0, [])) (by decide)
    obtain ⟨n20, l20, h⟩ := v_il h (by decide +kernel : pins 163 203 = some (3, 204, 1, 0, [])) (v := hh) rfl
    obtain ⟨n21, w204, l21, e204, h⟩ := u_mul h (by decide +kernel : pins 163 204 = some (10, 205, 2, 0, []))
    obtain ⟨n22, l22, h⟩ := v_is h (by decide +kernel : pins 163 205 = some (6, 207, 4, 0, []))
    have h : prun n22 163 207 [(4, .int w204), (3, .int w200), (0, .ref t), (1, .int hh), (2, .int k)] [] s199 = some x := h
    have h := prun_lv h (lv' := [(4, .int w204), (3, .int w200), (0, .ref t), (1, .int hh), (2, .int k)]) (lvLe.cons (lvLe.cons (lvLe.cons (lvLe.cons (lvLe.cons lvLe.nil rfl) rfl) rfl) rfl) rfl) (by decide : ([4, 3, 0, 1, 2] : List Nat).Nodup) (by decide : ([4, 3, 0, 1, 2] : List Nat).Nodup)
    obtain ⟨m1, c2, is2, h⟩ := pc_en_q _ _ _ _ x S199.1 trivial h
    have hb : w198.toInt = (gI (vw t A σ) 39 k.toNatClampNeg + 1).toInt := by rw [e198, e196, e197]; rfl
    obtain ⟨n501, l501, h⟩ := v_il h (by decide +kernel : pins 163 272 = some (3, 273, 3, 0, [])) (v := is2) rfl
    obtain ⟨n502, l502, ⟨c273, h⟩ | ⟨c273, h⟩⟩ := u_if0 h (by decide +kernel : pins 163 273 = some (16, 276, 0, ((296 : Nat) : Int), []))
    · have ex := u_ret37 h (by decide +kernel : pins 163 296 = some (37, 297, 0, 0, []))
      subst ex
      exact ⟨rfl, S199, Or.inr ⟨by rw [← e5, ← e7]; omega, vw t A s199, w198, hb, u199, Or.inl rfl⟩⟩
    · obtain ⟨n504, l504, h⟩ := v_al h (by decide +kernel : pins 163 276 = some (5, 277, 0, 0, [])) (v := t) rfl
      obtain ⟨n505, l505, h⟩ := v_il h (by decide +kernel : pins 163 277 = some (3, 278, 1, 0, [])) (v := hh) rfl
      obtain ⟨n506, l506, h⟩ := v_al h (by decide +kernel : pins 163 278 = some (5, 279, 0, 0, [])) (v := t) rfl
      obtain ⟨n507, l507, h⟩ := w_row (k := 33) S199.1 h (by decide +kernel : pins 163 279 = some (22, 282, 13, 33, [])) (by decide)
      obtain ⟨n508, l508, h⟩ := v_il h (by decide +kernel : pins 163 282 = some (3, 283, 2, 0, [])) (v := k) rfl
      obtain ⟨n509, w283, l509, b283, e283, h⟩ := w_iald S199.1 h (by decide +kernel : pins 163 283 = some (24, 284, 0, 0, [])) (by decide)
      obtain ⟨n510, l510, h⟩ := v_al h (by decide +kernel : pins 163 284 = some (5, 285, 0, 0, [])) (v := t) rfl
      obtain ⟨n511, l511, h⟩ := w_row (k := 40) S199.1 h (by decide +kernel : pins 163 285 = some (22, 288, 13, 40, [])) (by decide)
      obtain ⟨n512, w288, l512, ⟨e288, i288⟩, h⟩ := u_ic h (by decide +kernel : pins 163 288 = some (0, 290, 16, 0, [])) (by decide)
      obtain ⟨n513, l513, h⟩ := v_il h (by decide +kernel : pins 163 290 = some (3, 291, 2, 0, [])) (v := k) rfl
      obtain ⟨n514, w291, l514, e291, h⟩ := u_mul h (by decide +kernel : pins 163 291 = some (10, 292, 2, 0, []))
      obtain ⟨n515, w292, l515, ⟨e292, i292⟩, h⟩ := u_ic h (by decide +kernel : pins 163 292 = some (0, 293, 0, 0, [])) (by decide)
      obtain ⟨n516, r293, s293, l516, h293, h⟩ := pinv_call h (by decide +kernel : pins 163 293 = some (36, 296, 153, 0, [6]))
      have h293 : prun n516 153 0 (lv_args 0 [.ref t, .int hh, .int w283, .ref (A 40), .int w291, .int w292]) [] s199 = some (r293, s293) := h293
      have HA2 : 0 ≤ (gI (vw t A s199) 46 0).toInt ∧ (gI (vw t A s199) 46 0).toInt < 800 := by rw [show gI (vw t A s199) 46 0 = gI (vw t A σ) 46 0 by rw [u199, gI_ne (by decide)]]; exact HA
      have HM2 : 0 ≤ (gI (vw t A s199) 47 0).toInt ∧ (gI (vw t A s199) 47 0).toInt ≤ 1000 := by rw [show gI (vw t A s199) 47 0 = gI (vw t A σ) 47 0 by rw [u199, gI_ne (by decide)]]; exact HM
      obtain ⟨er293, S293, F293, N293⟩ := pc_sendAsk S199.1 h293 (by decide) HA2 HM2
      have er293 : r293 = none := er293
      subst er293
      try dsimp only at S293
      try dsimp only at F293
      try dsimp only at N293
      have h : prun n516 163 296 [(4, .int c2), (3, .int is2), (0, .ref t), (1, .int hh), (2, .int k)] [] s293 = some x := h
      have ex := u_ret37 h (by decide +kernel : pins 163 296 = some (37, 297, 0, 0, []))
      subst ex
      exact ⟨rfl, (S199.tr S293), Or.inr ⟨by rw [← e5, ← e7]; omega, vw t A s199, w198, hb, u199, Or.inr ⟨F293, N293⟩⟩⟩
  · obtain ⟨n23, l23, h⟩ := v_al h (by decide +kernel : pins 163 14 = some (5, 15, 0, 0, [])) (v := t) rfl
    obtain ⟨n24, l24, h⟩ := w_row (k := 32) W h (by decide +kernel : pins 163 15 = some (22, 18, 13, 32, [])) (by decide)
    obtain ⟨n25, l25, h⟩ := v_il h (by decide +kernel : pins 163 18 = some (3, 19, 1, 0, [])) (v := hh) rfl
    obtain ⟨n26, l26, h⟩ := v_dup2 h (by decide +kernel : pins 163 19 = some (35, 20, 0, 0, []))
    obtain ⟨n27, w20, l27, b20, e20, h⟩ := w_iald W h (by decide +kernel : pins 163 20 = some (24, 21, 0, 0, [])) (by decide)
    obtain ⟨n28, w21, l28, ⟨e21, i21⟩, h⟩ := u_ic h (by decide +kernel : pins 163 21 = some (0, 22, 1, 0, [])) (by decide)
    obtain ⟨n29, w22, l29, e22, h⟩ := u_sub h (by decide +kernel : pins 163 22 = some (10, 23, 1, 0, []))
    obtain ⟨n30, s23, l30, b23, S23, u23, h⟩ := w_iast W h (by decide +kernel : pins 163 23 = some (28, 24, 0, 0, [])) (by decide)
    obtain ⟨n31, l31, h⟩ := v_il h (by decide +kernel : pins 163 24 = some (3, 25, 2, 0, [])) (v := k) rfl
    obtain ⟨n32, l32, h⟩ := v_is h (by decide +kernel : pins 163 25 = some (6, 26, 3, 0, []))
    have h : prun n32 163 26 [(3, .int k), (0, .ref t), (1, .int hh), (2, .int k)] [] s23 = some x := h
    have h := prun_lv h (lv' := [(3, .int k), (0, .ref t), (1, .int hh), (2, .int k)]) (lvLe.cons (lvLe.cons (lvLe.cons (lvLe.cons lvLe.nil rfl) rfl) rfl) rfl) (by decide : ([3, 0, 1, 2] : List Nat).Nodup) (by decide : ([3, 0, 1, 2] : List Nat).Nodup)
    have hn : (hh.toNatClampNeg : Int) = hh.toInt := n_clamp hh0.1
    have q20 : w20 = gI (vw t A σ) 32 hh.toNatClampNeg := e20
    have q22 : w22.toInt = (gI (vw t A σ) 32 hh.toNatClampNeg).toInt - 1 := by rw [e22, n_sub (by rw [i21, q20]; omega) (by rw [i21, q20]; omega), i21, q20]
    have n32 : gI (vw t A s23) 32 hh.toNatClampNeg = w22 := by rw [u23, gI_eq]
    obtain ⟨y1, y2, y3⟩ := pc_en_s hh0 _ _ _ x S23.1 ⟨hk0.1, by rw [n32]; omega, fun q hq => by rw [u23, gI_ne (by decide)]; exact hB q hq⟩ h
    rw [n32, q22] at y3
    refine ⟨y1, S23.tr y2, Or.inl ⟨by rw [← e5, ← e7]; omega, vw t A s23, fun j q hj => ?_, by rw [n32]; exact q22, ?_⟩⟩
    · rw [u23]
      by_cases e : j = 32
      · subst e; exact up_ni (by decide) (fun e => hj ⟨rfl, e⟩)
      · exact up_ne e
    · rw [show 24 * (hh.toNatClampNeg : Int) + (gI (vw t A σ) 32 hh.toNatClampNeg).toInt - 1 = 24 * (hh.toNatClampNeg : Int) + ((gI (vw t A σ) 32 hh.toNatClampNeg).toInt - 1) by omega]
      exact y3
