/-- a question that hears the same question -/
def QStep (V V' : Nat → Nat → Value) (q : Nat) : Prop := (V' 27 q = V 27 q ∧ V' 28 q = V 28 q) ∨ ((gL V 27 q - gL V 0 0).toInt ≤ 100 ∧ V' 27 q = .long (gL V 27 q + (gI V 28 q).toInt64) ∧ ∃ w : Int32, V' 28 q = .int w ∧ (((gI V 28 q).toInt < 64000 ∧ w = Int32.ofInt 2 * gI V 28 q) ∨ (64000 ≤ (gI V 28 q).toInt ∧ w.toInt = 64000)))
def QAll (V V' : Nat → Nat → Value) (h c : Nat) : Prop := (∀ j q : Nat, ¬ (j = 27 ∨ j = 28) → ¬ (j = 10 ∧ q = h) → V' j q = V j q) ∧ (∀ q : Nat, (q < c ∨ 4 * h + 4 ≤ q) → V' 27 q = V 27 q ∧ V' 28 q = V 28 q) ∧ ∀ q : Nat, QStep V V' q
theorem QAll.rf {V : Nat → Nat → Value} {h c : Nat} : QAll V V h c := ⟨fun _ _ _ _ => rfl, fun _ _ => ⟨rfl, rfl⟩, fun _ => Or.inl ⟨rfl, rfl⟩⟩
theorem QAll.tr {V V1 V2 : Nat → Nat → Value} {h c : Nat} (h1 : (∀ j q : Nat, ¬ (j = 27 ∨ j = 28) → ¬ (j = 10 ∧ q = h) → V1 j q = V j q) ∧ (∀ q : Nat, ¬ q = c → V1 27 q = V 27 q ∧ V1 28 q = V 28 q) ∧ QStep V V1 c) (hc : c < 4 * h + 4) (h2 : QAll V1 V2 h (c + 1)) : QAll V V2 h c := by
  obtain ⟨a1, a2, a3⟩ := h1
  obtain ⟨b1, b2, b3⟩ := h2
  refine ⟨fun j q x y => (b1 j q x y).trans (a1 j q x y), fun q hq => ?_, fun q => ?_⟩
  · obtain ⟨c1, c2⟩ := b2 q (by omega)
    obtain ⟨d1, d2⟩ := a2 q (by omega)
    exact ⟨c1.trans d1, c2.trans d2⟩
  · by_cases e : q = c
    · subst e
      obtain ⟨c1, c2⟩ := b2 q (by omega)
      rcases a3 with ⟨d1, d2⟩ | ⟨d1, d2, w, d3, d4⟩
      · exact Or.inl ⟨c1.trans d1, c2.trans d2⟩
      · exact Or.inr ⟨d1, c1.trans d2, w, c2.trans d3, d4⟩
    · obtain ⟨d1, d2⟩ := a2 q e
      have T : gL V1 0 0 = gL V 0 0 := by unfold gL; rw [a1 0 0 (by decide) (by omega)]
      have e27 : gL V1 27 q = gL V 27 q := by unfold gL; rw [d1]
      have e28 : gI V1 28 q = gI V 28 q := by unfold gI; rw [d2]
      rcases b3 q with ⟨c1, c2⟩ | ⟨c1, c2, w, c3, c4⟩
      · exact Or.inl ⟨c1.trans d1, c2.trans d2⟩
      · rw [T, e27] at c1
        rw [e27, e28] at c2
        rw [e28] at c4
        exact Or.inr ⟨c1, c2, w, c3, c4⟩
/-- one reply more -/
def Rpl (V V' : Nat → Nat → Value) (h : Nat) : Prop := (∀ j q : Nat, ¬ j = 29 → ¬ (j = 30 ∧ (q : Int) = 4 * (h : Int) + (gI V 31 h).toInt) → ¬ (j = 31 ∧ q = h) → V' j q = V j q) ∧ (gI V' 31 h).toInt = (gI V 31 h).toInt + 1 ∧ ¬ (gI V 31 h).toInt = 4 ∧ ∃ y : Int64, -100 < y.toInt ∧ y.toInt < 100 ∧ (0 ≤ (gI V 5 h).toInt → 0 ≤ y.toInt) ∧ ∀ q : Nat, (q : Int) = 4 * (h : Int) + (gI V 31 h).toInt → V' 30 q = .long (gL V 0 0 + Int64.ofInt 20 + y)
theorem pc_ask_q {t : Nat} {A : Nat → Nat} {hh sort n0 : Int32} (hh0 : 0 ≤ hh.toInt ∧ hh.toInt ≤ 7) : ∀ (n : Nat) (c : Int32) (σ : ps) (x : Option Value × ps), Wld t A σ → (4 * hh.toInt ≤ c.toInt) → prun n 176 12 [(4, .int c), (3, .int sort), (0, .ref t), (1, .int hh), (2, .int n0)] [] σ = some x → ∃ (m : Nat) (c2 : Int32) (σ' : ps), SP t A σ σ' ∧ QAll (vw t A σ) (vw t A σ') hh.toNatClampNeg c.toNatClampNeg ∧ prun m 176 146 [(4, .int c2), (3, .int sort), (0, .ref t), (1, .int hh), (2, .int n0)] [] σ' = some x := by
  intro n
  induction n using Nat.strongRecOn with
  | ind n ih =>
    intro c σ x W I h
    obtain ⟨n1, l1, h⟩ := v_il h (by decide +kernel : pins 176 12 = some (3, 14, 4, 0, [])) (v := c) rfl
    obtain ⟨n2, w14, l2, ⟨e14, i14⟩, h⟩ := u_ic h (by decide +kernel : pins 176 14 = some (0, 15, 4, 0, [])) (by decide)
    obtain ⟨n3, l3, h⟩ := v_il h (by decide +kernel : pins 176 15 = some (3, 16, 1, 0, [])) (v := hh) rfl
    obtain ⟨n4, w16, l4, e16, h⟩ := u_mul h (by decide +kernel : pins 176 16 = some (10, 17, 2, 0, []))
    obtain ⟨n5, w17, l5, ⟨e17, i17⟩, h⟩ := u_ic h (by decide +kernel : pins 176 17 = some (0, 18, 4, 0, [])) (by decide)
    obtain ⟨n6, w18, l6, e18, h⟩ := u_add h (by decide +kernel : pins 176 18 = some (10, 19, 0, 0, []))
    obtain ⟨n7, l7, ⟨c19, h⟩ | ⟨c19, h⟩⟩ := u_ic3 h (by decide +kernel : pins 176 19 = some (17, 22, 3, ((146 : Nat) : Int), []))
    · have h := prun_lv h (lv' := [(4, .int c), (3, .int sort), (0, .ref t), (1, .int hh), (2, .int n0)]) (lvLe.cons (lvLe.cons (lvLe.cons (lvLe.cons (lvLe.cons lvLe.nil rfl) rfl) rfl) rfl) rfl) (by decide : ([4, 3, 0, 1, 2] : List Nat).Nodup) (by decide : ([4, 3, 0, 1, 2] : List Nat).Nodup)
      exact ⟨_, _, σ, SP.rf W, QAll.rf, h⟩
    · obtain ⟨n8, l8, h⟩ := v_al h (by decide +kernel : pins 176 22 = some (5, 23, 0, 0, [])) (v := t) rfl
      obtain ⟨n9, l9, h⟩ := w_row (k := 26) W h (by decide +kernel : pins 176 23 = some (22, 26, 13, 26, [])) (by decide)
      obtain ⟨n10, l10, h⟩ := v_il h (by decide +kernel : pins 176 26 = some (3, 28, 4, 0, [])) (v := c) rfl
      obtain ⟨n11, w28, l11, b28, e28, h⟩ := w_iald W h (by decide +kernel : pins 176 28 = some (24, 29, 0, 0, [])) (by decide)
      obtain ⟨n12, l12, h⟩ := v_il h (by decide +kernel : pins 176 29 = some (3, 30, 3, 0, [])) (v := sort) rfl
      obtain ⟨n13, l13, ⟨c30, h⟩ | ⟨c30, h⟩⟩ := u_ic1 h (by decide +kernel : pins 176 30 = some (17, 33, 1, ((140 : Nat) : Int), []))
      · obtain ⟨n14, w140, l14, e140, h⟩ := u_inc h (by decide +kernel : pins 176 140 = some (9, 143, 4, 1, [])) (v := c) rfl
        have h : prun n14 176 143 [(4, .int w140), (3, .int sort), (0, .ref t), (1, .int hh), (2, .int n0)] [] σ = some x := h
        obtain ⟨n15, l15, h⟩ := u_go h (by decide +kernel : pins 176 143 = some (20, 146, 0, ((12 : Nat) : Int), []))
        have h := prun_lv h (lv' := [(4, .int w140), (3, .int sort), (0, .ref t), (1, .int hh), (2, .int n0)]) (lvLe.cons (lvLe.cons (lvLe.cons (lvLe.cons (lvLe.cons lvLe.nil rfl) rfl) rfl) rfl) rfl) (by decide : ([4, 3, 0, 1, 2] : List Nat).Nodup) (by decide : ([4, 3, 0, 1, 2] : List Nat).Nodup)
        have hn : (hh.toNatClampNeg : Int) = hh.toInt := n_clamp hh0.1
        have q16 : w16.toInt = 4 * hh.toInt := by rw [e16, n_mul (by rw [i14]; omega) (by rw [i14]; omega), i14]
        have q18 : w18.toInt = 4 * hh.toInt + 4 := by rw [addc e18 i17 (by omega) (by omega) (by decide) (by decide), q16]
        have q140 : w140.toInt = c.toInt + 1 := addc e140 (by decide : (Int32.ofInt 1).toInt = 1) (by omega) (by omega) (by decide) (by decide)
        have cn : (c.toNatClampNeg : Int) = c.toInt := n_clamp (by omega)
        have cn1 : w140.toNatClampNeg = c.toNatClampNeg + 1 := by rw [clampc q140 (by omega)]; omega
        obtain ⟨m, c2, σ2, y1, y2, y3⟩ := ih n15 (by omega) _ _ x W (by omega) h
        rw [cn1] at y2
        exact ⟨m, c2, σ2, y1, QAll.tr ⟨fun _ _ _ _ => rfl, fun _ _ => ⟨rfl, rfl⟩, Or.inl ⟨rfl, rfl⟩⟩ (by omega) y2, y3⟩
      · obtain ⟨n16, l16, h⟩ := v_al h (by decide +kernel : pins 176 33 = some (5, 34, 0, 0, [])) (v := t) rfl
        obtain ⟨n17, l17, h⟩ := w_row (k := 25) W h (by decide +kernel : pins 176 34 = some (22, 37, 13, 25, [])) (by decide)
        obtain ⟨n18, w37, l18, ⟨e37, i37⟩, h⟩ := u_ic h (by decide +kernel : pins 176 37 = some (0, 39, 16, 0, [])) (by decide)
        obtain ⟨n19, l19, h⟩ := v_il h (by decide +kernel : pins 176 39 = some (3, 41, 4, 0, [])) (v := c) rfl
        obtain ⟨n20, w41, l20, e41, h⟩ := u_mul h (by decide +kernel : pins 176 41 = some (10, 42, 2, 0, []))
        obtain ⟨n21, l21, h⟩ := v_al h (by decide +kernel : pins 176 42 = some (5, 43, 0, 0, [])) (v := t) rfl
        obtain ⟨n22, l22, h⟩ := w_row (k := 62) W h (by decide +kernel : pins 176 43 = some (22, 46, 13, 62, [])) (by decide)
        obtain ⟨n23, w46, l23, ⟨e46, i46⟩, h⟩ := u_ic h (by decide +kernel : pins 176 46 = some (0, 49, 240, 0, [])) (by decide)
        obtain ⟨n24, r49, s49, l24, h49, h⟩ := pinv_call h (by decide +kernel : pins 176 49 = some (36, 52, 140, 1, [4]))
        have h49 : prun n24 140 0 (lv_args 0 [.ref (A 25), .int w41, .ref (A 62), .int w46]) [] σ = some (r49, s49) := h49
        obtain ⟨es49, w49, er49, f49⟩ := pc_alike0 W h49 (by decide) (by decide)
        have er49 : r49 = some (.int w49) := er49
        have et49 : s49 = σ := es49
        rw [et49] at h
        subst er49
        have h : prun n24 176 52 [(4, .int c), (3, .int sort), (0, .ref t), (1, .int hh), (2, .int n0)] [.int w49] σ = some x := h
        obtain ⟨n25, l25, ⟨c52, h⟩ | ⟨c52, h⟩⟩ := u_if0 h (by decide +kernel : pins 176 52 = some (16, 55, 0, ((140 : Nat) : Int), []))
        · obtain ⟨n26, w140, l26, e140, h⟩ := u_inc h (by decide +kernel : pins 176 140 = some (9, 143, 4, 1, [])) (v := c) rfl
          have h : prun n26 176 143 [(4, .int w140), (3, .int sort), (0, .ref t), (1, .int hh), (2, .int n0)] [] σ = some x := h
          obtain ⟨n27, l27, h⟩ := u_go h (by decide +kernel : pins 176 143 = some (20, 146, 0, ((12 : Nat) : Int), []))
          have h := prun_lv h (lv' := [(4, .int w140), (3, .int sort), (0, .ref t), (1, .int hh), (2, .int n0)]) (lvLe.cons (lvLe.cons (lvLe.cons (lvLe.cons (lvLe.cons lvLe.nil rfl) rfl) rfl) rfl) rfl) (by decide : ([4, 3, 0, 1, 2] : List Nat).Nodup) (by decide : ([4, 3, 0, 1, 2] : List Nat).Nodup)
          have hn : (hh.toNatClampNeg : Int) = hh.toInt := n_clamp hh0.1
          have q16 : w16.toInt = 4 * hh.toInt := by rw [e16, n_mul (by rw [i14]; omega) (by rw [i14]; omega), i14]
          have q18 : w18.toInt = 4 * hh.toInt + 4 := by rw [addc e18 i17 (by omega) (by omega) (by decide) (by decide), q16]
          have q140 : w140.toInt = c.toInt + 1 := addc e140 (by decide : (Int32.ofInt 1).toInt = 1) (by omega) (by omega) (by decide) (by decide)
          have cn : (c.toNatClampNeg : Int) = c.toInt := n_clamp (by omega)
          have cn1 : w140.toNatClampNeg = c.toNatClampNeg + 1 := by rw [clampc q140 (by omega)]; omega
          obtain ⟨m, c2, σ2, y1, y2, y3⟩ := ih n27 (by omega) _ _ x W (by omega) h
          rw [cn1] at y2
          exact ⟨m, c2, σ2, y1, QAll.tr ⟨fun _ _ _ _ => rfl, fun _ _ => ⟨rfl, rfl⟩, Or.inl ⟨rfl, rfl⟩⟩ (by omega) y2, y3⟩
        · obtain ⟨n28, l28, h⟩ := v_al h (by decide +kernel : pins 176 55 = some (5, 56, 0, 0, [])) (v := t) rfl
          obtain ⟨n29, l29, h⟩ := w_row (k := 27) W h (by decide +kernel : pins 176 56 = some (22, 59, 13, 27, [])) (by decide)
          obtain ⟨n30, l30, h⟩ := v_il h (by decide +kernel : pins 176 59 = some (3, 61, 4, 0, [])) (v := c) rfl
          obtain ⟨n31, w61, l31, b61, e61, h⟩ := w_lald W h (by decide +kernel : pins 176 61 = some (26, 62, 0, 0, [])) (by decide)
          obtain ⟨n32, l32, h⟩ := v_al h (by decide +kernel : pins 176 62 = some (5, 63, 0, 0, [])) (v := t) rfl
          obtain ⟨n33, w63, l33, e63, h⟩ := w_fl W h (by decide +kernel : pins 176 63 = some (22, 66, 13, 0, []))
          obtain ⟨n34, w66, l34, e66, h⟩ := u_lsub h (by decide +kernel : pins 176 66 = some (11, 67, 1, 0, []))
          obtain ⟨n35, w67, l35, e67, h⟩ := u_lc h (by decide +kernel : pins 176 67 = some (1, 70, 100, 0, []))
          have i67 : w67.toInt = 100 := by rw [e67]; decide
          obtain ⟨n36, w70, l36, e70, h⟩ := u_lcmp h (by decide +kernel : pins 176 70 = some (12, 71, 0, 0, []))
          obtain ⟨n37, l37, ⟨c71, h⟩ | ⟨c71, h⟩⟩ := u_if5 h (by decide +kernel : pins 176 71 = some (16, 74, 5, ((77 : Nat) : Int), []))
          · obtain ⟨n38, l38, h⟩ := v_al h (by decide +kernel : pins 176 77 = some (5, 78, 0, 0, [])) (v := t) rfl
            obtain ⟨n39, l39, h⟩ := w_row (k := 10) W h (by decide +kernel : pins 176 78 = some (22, 81, 13, 10, [])) (by decide)
            obtain ⟨n40, l40, h⟩ := v_il h (by decide +kernel : pins 176 81 = some (3, 82, 1, 0, [])) (v := hh) rfl
            obtain ⟨n41, l41, h⟩ := v_dup2 h (by decide +kernel : pins 176 82 = some (35, 83, 0, 0, []))
            obtain ⟨n42, w83, l42, b83, e83, h⟩ := w_iald W h (by decide +kernel : pins 176 83 = some (24, 84, 0, 0, [])) (by decide)
            obtain ⟨n43, w84, l43, ⟨e84, i84⟩, h⟩ := u_ic h (by decide +kernel : pins 176 84 = some (0, 85, 1, 0, [])) (by decide)
            obtain ⟨n44, w85, l44, e85, h⟩ := u_add h (by decide +kernel : pins 176 85 = some (10, 86, 0, 0, []))
            obtain ⟨n45, s86, l45, b86, S86, u86, h⟩ := w_iast W h (by decide +kernel : pins 176 86 = some (28, 87, 0, 0, [])) (by decide)
            obtain ⟨n46, l46, h⟩ := v_al h (by decide +kernel : pins 176 87 = some (5, 88, 0, 0, [])) (v := t) rfl
            obtain ⟨n47, l47, h⟩ := w_row (k := 27) S86.1 h (by decide +kernel : pins 176 88 = some (22, 91, 13, 27, [])) (by decide)
            obtain ⟨n48, l48, h⟩ := v_il h (by decide +kernel : pins 176 91 = some (3, 93, 4, 0, [])) (v := c) rfl
            obtain ⟨n49, l49, h⟩ := v_dup2 h (by decide +kernel : pins 176 93 = some (35, 94, 0, 0, []))
            obtain ⟨n50, w94, l50, b94, e94, h⟩ := w_lald S86.1 h (by decide +kernel : pins 176 94 = some (26, 95, 0, 0, [])) (by decide)
            obtain ⟨n51, l51, h⟩ := v_al h (by decide +kernel : pins 176 95 = some (5, 96, 0, 0, [])) (v := t) rfl
            obtain ⟨n52, l52, h⟩ := w_row (k := 28) S86.1 h (by decide +kernel : pins 176 96 = some (22, 99, 13, 28, [])) (by decide)
            obtain ⟨n53, l53, h⟩ := v_il h (by decide +kernel : pins 176 99 = some (3, 101, 4, 0, [])) (v := c) rfl
            obtain ⟨n54, w101, l54, b101, e101, h⟩ := w_iald S86.1 h (by decide +kernel : pins 176 101 = some (24, 102, 0, 0, [])) (by decide)
            obtain ⟨n55, w102, l55, e102, h⟩ := u_i2l h (by decide +kernel : pins 176 102 = some (13, 103, 0, 0, []))
            obtain ⟨n56, w103, l56, e103, h⟩ := u_ladd h (by decide +kernel : pins 176 103 = some (11, 104, 0, 0, []))
            obtain ⟨n57, s104, l57, b104, S104, u104, h⟩ := w_last S86.1 h (by decide +kernel : pins 176 104 = some (30, 105, 0, 0, [])) (by decide)
            obtain ⟨n58, l58, h⟩ := v_al h (by decide +kernel : pins 176 105 = some (5, 106, 0, 0, [])) (v := t) rfl
            obtain ⟨n59, l59, h⟩ := w_row (k := 28) S104.1 h (by decide +kernel : pins 176 106 = some (22, 109, 13, 28, [])) (by decide)
            obtain ⟨n60, l60, h⟩ := v_il h (by decide +kernel : pins 176 109 = some (3, 111, 4, 0, [])) (v := c) rfl
            obtain ⟨n61, l61, h⟩ := v_al h (by decide +kernel : pins 176 111 = some (5, 112, 0, 0, [])) (v := t) rfl
            obtain ⟨n62, l62, h⟩ := w_row (k := 28) S104.1 h (by decide +kernel : pins 176 112 = some (22, 115, 13, 28, [])) (by decide)
            obtain ⟨n63, l63, h⟩ := v_il h (by decide +kernel : pins 176 115 = some (3, 117, 4, 0, [])) (v := c) rfl
            obtain ⟨n64, w117, l64, b117, e117, h⟩ := w_iald S104.1 h (by decide +kernel : pins 176 117 = some (24, 118, 0, 0, [])) (by decide)
            obtain ⟨n65, w118, l65, ⟨e118, i118⟩, h⟩ := u_ic h (by decide +kernel : pins 176 118 = some (0, 121, 64000, 0, [])) (by decide)
            obtain ⟨n66, l66, ⟨c121, h⟩ | ⟨c121, h⟩⟩ := u_ic3 h (by decide +kernel : pins 176 121 = some (17, 124, 3, ((136 : Nat) : Int), []))
            · obtain ⟨n67, w136, l67, ⟨e136, i136⟩, h⟩ := u_ic h (by decide +kernel : pins 176 136 = some (0, 139, 64000, 0, [])) (by decide)
              obtain ⟨n68, s139, l68, b139, S139, u139, h⟩ := w_iast S104.1 h (by decide +kernel : pins 176 139 = some (28, 140, 0, 0, [])) (by decide)
              obtain ⟨n69, w140, l69, e140, h⟩ := u_inc h (by decide +kernel : pins 176 140 = some (9, 143, 4, 1, [])) (v := c) rfl
              have h : prun n69 176 143 [(4, .int w140), (3, .int sort), (0, .ref t), (1, .int hh), (2, .int n0)] [] s139 = some x := h
              obtain ⟨n70, l70, h⟩ := u_go h (by decide +kernel : pins 176 143 = some (20, 146, 0, ((12 : Nat) : Int), []))
              have h := prun_lv h (lv' := [(4, .int w140), (3, .int sort), (0, .ref t), (1, .int hh), (2, .int n0)]) (lvLe.cons (lvLe.cons (lvLe.cons (lvLe.cons (lvLe.cons lvLe.nil rfl) rfl) rfl) rfl) rfl) (by decide : ([4, 3, 0, 1, 2] : List Nat).Nodup) (by decide : ([4, 3, 0, 1, 2] : List Nat).Nodup)
              have hn : (hh.toNatClampNeg : Int) = hh.toInt := n_clamp hh0.1
              have q16 : w16.toInt = 4 * hh.toInt := by rw [e16, n_mul (by rw [i14]; omega) (by rw [i14]; omega), i14]
              have q18 : w18.toInt = 4 * hh.toInt + 4 := by rw [addc e18 i17 (by omega) (by omega) (by decide) (by decide), q16]
              have q140 : w140.toInt = c.toInt + 1 := addc e140 (by decide : (Int32.ofInt 1).toInt = 1) (by omega) (by omega) (by decide) (by decide)
              have cn : (c.toNatClampNeg : Int) = c.toInt := n_clamp (by omega)
              have cn1 : w140.toNatClampNeg = c.toNatClampNeg + 1 := by rw [clampc q140 (by omega)]; omega
              have z : ∀ j q : Nat, ¬ (j = 27 ∨ j = 28) → ¬ (j = 10 ∧ q = hh.toNatClampNeg) → vw t A s139 j q = vw t A σ j q := by
                intro j q h1 h2
                rw [u139, up_ne (by omega), u104, up_ne (by omega), u86]
                by_cases e : j = 10
                · subst e; exact up_ni (by decide) (fun e => h2 ⟨rfl, e⟩)
                · exact up_ne e
              have z2 : ∀ q : Nat, ¬ q = c.toNatClampNeg → vw t A s139 27 q = vw t A σ 27 q ∧ vw t A s139 28 q = vw t A σ 28 q := by
                intro q hq
                rw [u139, up_ne (by decide), up_ni (by decide) hq, u104, up_ni (by decide) hq, up_ne (by decide), u86, up_ne (by decide), up_ne (by decide)]
                exact ⟨rfl, rfl⟩
              have e27 : w94 = gL (vw t A σ) 27 c.toNatClampNeg := by rw [e94, u86, gL_ne (by decide)]
              have e28 : w101 = gI (vw t A σ) 28 c.toNatClampNeg := by rw [e101, u86, gI_ne (by decide)]
              have e28b : w117 = gI (vw t A σ) 28 c.toNatClampNeg := by rw [e117, u104, gI_ne (by decide), u86, gI_ne (by decide)]
              have QS : QStep (vw t A σ) (vw t A s139) c.toNatClampNeg := by
                refine Or.inr ⟨?_, ?_, w136, ?_, ?_⟩
                · rw [← e61, ← e63, ← e66]
                  omega
                · rw [u139, up_ne (by decide), u104, up_eq, e103, e27, e102, e28]
                · rw [u139, up_eq]
                · rw [← e28b]
                  exact Or.inr ⟨by omega, i136⟩
              obtain ⟨m, c2, σ2, y1, y2, y3⟩ := ih n70 (by omega) _ _ x S139.1 (by omega) h
              rw [cn1] at y2
              exact ⟨m, c2, σ2, ((S86.tr S104).tr S139).tr y1, QAll.tr ⟨z, z2, QS⟩ (by omega) y2, y3⟩
            · obtain ⟨n71, w124, l71, ⟨e124, i124⟩, h⟩ := u_ic h (by decide +kernel : pins 176 124 = some (0, 125, 2, 0, [])) (by decide)
              obtain ⟨n72, l72, h⟩ := v_al h (by decide +kernel : pins 176 125 = some (5, 126, 0, 0, [])) (v := t) rfl
              obtain ⟨n73, l73, h⟩ := w_row (k := 28) S104.1 h (by decide +kernel : pins 176 126 = some (22, 129, 13, 28, [])) (by decide)
              obtain ⟨n74, l74, h⟩ := v_il h (by decide +kernel : pins 176 129 = some (3, 131, 4, 0, [])) (v := c) rfl
              obtain ⟨n75, w131, l75, b131, e131, h⟩ := w_iald S104.1 h (by decide +kernel : pins 176 131 = some (24, 132, 0, 0, [])) (by decide)
              obtain ⟨n76, w132, l76, e132, h⟩ := u_mul h (by decide +kernel : pins 176 132 = some (10, 133, 2, 0, []))
              obtain ⟨n77, l77, h⟩ := u_go h (by decide +kernel : pins 176 133 = some (20, 136, 0, ((139 : Nat) : Int), []))
              obtain ⟨n78, s139, l78, b139, S139, u139, h⟩ := w_iast S104.1 h (by decide +kernel : pins 176 139 = some (28, 140, 0, 0, [])) (by decide)
              obtain ⟨n79, w140, l79, e140, h⟩ := u_inc h (by decide +kernel : pins 176 140 = some (9, 143, 4, 1, [])) (v := c) rfl
              have h : prun n79 176 143 [(4, .int w140), (3, .int sort), (0, .ref t), (1, .int hh), (2, .int n0)] [] s139 = some x := h
              obtain ⟨n80, l80, h⟩ := u_go h (by decide +kernel : pins 176 143 = some (20, 146, 0, ((12 : Nat) : Int), []))
              have h := prun_lv h (lv' := [(4, .int w140), (3, .int sort), (0, .ref t), (1, .int hh), (2, .int n0)]) (lvLe.cons (lvLe.cons (lvLe.cons (lvLe.cons (lvLe.cons lvLe.nil rfl) rfl) rfl) rfl) rfl) (by decide : ([4, 3, 0, 1, 2] : List Nat).Nodup) (by decide : ([4, 3, 0, 1, 2] : List Nat).Nodup)
              have hn : (hh.toNatClampNeg : Int) = hh.toInt := n_clamp hh0.1
              have q16 : w16.toInt = 4 * hh.toInt := by rw [e16, n_mul (by rw [i14]; omega) (by rw [i14]; omega), i14]
              have q18 : w18.toInt = 4 * hh.toInt + 4 := by rw [addc e18 i17 (by omega) (by omega) (by decide) (by decide), q16]
              have q140 : w140.toInt = c.toInt + 1 := addc e140 (by decide : (Int32.ofInt 1).toInt = 1) (by omega) (by omega) (by decide) (by decide)
              have cn : (c.toNatClampNeg : Int) = c.toInt := n_clamp (by omega)
              have cn1 : w140.toNatClampNeg = c.toNatClampNeg + 1 := by rw [clampc q140 (by omega)]; omega
              have z : ∀ j q : Nat, ¬ (j = 27 ∨ j = 28) → ¬ (j = 10 ∧ q = hh.toNatClampNeg) → vw t A s139 j q = vw t A σ j q := by
                intro j q h1 h2
                rw [u139, up_ne (by omega), u104, up_ne (by omega), u86]
                by_cases e : j = 10
                · subst e; exact up_ni (by decide) (fun e => h2 ⟨rfl, e⟩)
                · exact up_ne e
              have z2 : ∀ q : Nat, ¬ q = c.toNatClampNeg → vw t A s139 27 q = vw t A σ 27 q ∧ vw t A s139 28 q = vw t A σ 28 q := by
                intro q hq
                rw [u139, up_ne (by decide), up_ni (by decide) hq, u104, up_ni (by decide) hq, up_ne (by decide), u86, up_ne (by decide), up_ne (by decide)]
                exact ⟨rfl, rfl⟩
              have e27 : w94 = gL (vw t A σ) 27 c.toNatClampNeg := by rw [e94, u86, gL_ne (by decide)]
              have e28 : w101 = gI (vw t A σ) 28 c.toNatClampNeg := by rw [e101, u86, gI_ne (by decide)]
              have e28b : w117 = gI (vw t A σ) 28 c.toNatClampNeg := by rw [e117, u104, gI_ne (by decide), u86, gI_ne (by decide)]
              have QS : QStep (vw t A σ) (vw t A s139) c.toNatClampNeg := by
                refine Or.inr ⟨?_, ?_, w132, ?_, ?_⟩
                · rw [← e61, ← e63, ← e66]
                  omega
                · rw [u139, up_ne (by decide), u104, up_eq, e103, e27, e102, e28]
                · rw [u139, up_eq]
                · rw [← e28b]
                  refine Or.inl ⟨by omega, ?_⟩
                  rw [e132, e131, u104, gI_ne (by decide), u86, gI_ne (by decide), ← e28b, e124]
              obtain ⟨m, c2, σ2, y1, y2, y3⟩ := ih n80 (by omega) _ _ x S139.1 (by omega) h
              rw [cn1] at y2
              exact ⟨m, c2, σ2, ((S86.tr S104).tr S139).tr y1, QAll.tr ⟨z, z2, QS⟩ (by omega) y2, y3⟩
          · obtain ⟨n81, l81, h⟩ := u_go h (by decide +kernel : pins 176 74 = some (20, 77, 0, ((140 : Nat) : Int), []))
            obtain ⟨n82, w140, l82, e140, h⟩ := u_inc h (by decide +kernel : pins 176 140 = some (9, 143, 4, 1, [])) (v := c) rfl
            have h : prun n82 176 143 [(4, .int w140), (3, .int sort), (0, .ref t), (1, .int hh), (2, .int n0)] [] σ = some x := h
            obtain ⟨n83, l83, h⟩ := u_go h (by decide +kernel : pins 176 143 = some (20, 146, 0, ((12 : Nat) : Int), []))
            have h := prun_lv h (lv' := [(4, .int w140), (3, .int sort), (0, .ref t), (1, .int hh), (2, .int n0)]) (lvLe.cons (lvLe.cons (lvLe.cons (lvLe.cons (lvLe.cons lvLe.nil rfl) rfl) rfl) rfl) rfl) (by decide : ([4, 3, 0, 1, 2] : List Nat).Nodup) (by decide : ([4, 3, 0, 1, 2] : List Nat).Nodup)
            have hn : (hh.toNatClampNeg : Int) = hh.toInt := n_clamp hh0.1
            have q16 : w16.toInt = 4 * hh.toInt := by rw [e16, n_mul (by rw [i14]; omega) (by rw [i14]; omega), i14]
            have q18 : w18.toInt = 4 * hh.toInt + 4 := by rw [addc e18 i17 (by omega) (by omega) (by decide) (by decide), q16]
            have q140 : w140.toInt = c.toInt + 1 := addc e140 (by decide : (Int32.ofInt 1).toInt = 1) (by omega) (by omega) (by decide) (by decide)
            have cn : (c.toNatClampNeg : Int) = c.toInt := n_clamp (by omega)
            have cn1 : w140.toNatClampNeg = c.toNatClampNeg + 1 := by rw [clampc q140 (by omega)]; omega
            obtain ⟨m, c2, σ2, y1, y2, y3⟩ := ih n83 (by omega) _ _ x W (by omega) h
            rw [cn1] at y2
            exact ⟨m, c2, σ2, y1, QAll.tr ⟨fun _ _ _ _ => rfl, fun _ _ => ⟨rfl, rfl⟩, Or.inl ⟨rfl, rfl⟩⟩ (by omega) y2, y3⟩
theorem pc_ask_t {t : Nat} {A : Nat → Nat} {hh sort n0 : Int32} : ∀ (n : Nat) (a5 a4 : Int32) (σ : ps) (x : Option Value × ps), Wld t A σ → (True) → prun n 176 193 [(5, .int a5), (4, .int a4), (3, .int sort), (0, .ref t), (1, .int hh), (2, .int n0)] [] σ = some x → ∃ (m : Nat) (a52 a42 : Int32), prun m 176 232 [(5, .int a52), (4, .int a42), (3, .int sort), (0, .ref t), (1, .int hh), (2, .int n0)] [] σ = some x := by
  intro n
  induction n using Nat.strongRecOn with
  | ind n ih =>
    intro a5 a4 σ x W I h
    obtain ⟨n1, l1, h⟩ := v_il h (by decide +kernel : pins 176 193 = some (3, 195, 5, 0, [])) (v := a5) rfl
    obtain ⟨n2, l2, h⟩ := v_il h (by decide +kernel : pins 176 195 = some (3, 196, 2, 0, [])) (v := n0) rfl
    obtain ⟨n3, l3, ⟨c196, h⟩ | ⟨c196, h⟩⟩ := u_ic3 h (by decide +kernel : pins 176 196 = some (17, 199, 3, ((232 : Nat) : Int), []))
    · have h := prun_lv h (lv' := [(5, .int a5), (4, .int a4), (3, .int sort), (0, .ref t), (1, .int hh), (2, .int n0)]) (lvLe.cons (lvLe.cons (lvLe.cons (lvLe.cons (lvLe.cons (lvLe.cons lvLe.nil rfl) rfl) rfl) rfl) rfl) rfl) (by decide : ([5, 4, 3, 0, 1, 2] : List Nat).Nodup) (by decide : ([5, 4, 3, 0, 1, 2] : List Nat).Nodup)
      exact ⟨_, _, _, h⟩
    · obtain ⟨n4, l4, h⟩ := v_il h (by decide +kernel : pins 176 199 = some (3, 201, 4, 0, [])) (v := a4) rfl
      obtain ⟨n5, l5, ⟨c201, h⟩ | ⟨c201, h⟩⟩ := u_if1 h (by decide +kernel : pins 176 201 = some (16, 204, 1, ((219 : Nat) : Int), []))
      · obtain ⟨n6, w219, l6, ⟨e219, i219⟩, h⟩ := u_ic h (by decide +kernel : pins 176 219 = some (0, 220, 1, 0, [])) (by decide)
        obtain ⟨n7, l7, h⟩ := u_go h (by decide +kernel : pins 176 220 = some (20, 223, 0, ((224 : Nat) : Int), []))
        obtain ⟨n8, l8, h⟩ := v_is h (by decide +kernel : pins 176 224 = some (6, 226, 4, 0, []))
        have h : prun n8 176 226 [(4, .int w219), (5, .int a5), (3, .int sort), (0, .ref t), (1, .int hh), (2, .int n0)] [] σ = some x := h
        obtain ⟨n9, w226, l9, e226, h⟩ := u_inc h (by decide +kernel : pins 176 226 = some (9, 229, 5, 1, [])) (v := a5) rfl
        have h : prun n9 176 229 [(5, .int w226), (4, .int w219), (3, .int sort), (0, .ref t), (1, .int hh), (2, .int n0)] [] σ = some x := h
        obtain ⟨n10, l10, h⟩ := u_go h (by decide +kernel : pins 176 229 = some (20, 232, 0, ((193 : Nat) : Int), []))
        have h := prun_lv h (lv' := [(5, .int w226), (4, .int w219), (3, .int sort), (0, .ref t), (1, .int hh), (2, .int n0)]) (lvLe.cons (lvLe.cons (lvLe.cons (lvLe.cons (lvLe.cons (lvLe.cons lvLe.nil rfl) rfl) rfl) rfl) rfl) rfl) (by decide : ([5, 4, 3, 0, 1, 2] : List Nat).Nodup) (by decide : ([5, 4, 3, 0, 1, 2] : List Nat).Nodup)
        exact ih n10 (by omega) _ _ _ x W trivial h
      · obtain ⟨n11, l11, h⟩ := v_al h (by decide +kernel : pins 176 204 = some (5, 205, 0, 0, [])) (v := t) rfl
        obtain ⟨n12, l12, h⟩ := w_row (k := 67) W h (by decide +kernel : pins 176 205 = some (22, 208, 13, 67, [])) (by decide)
        obtain ⟨n13, l13, h⟩ := v_il h (by decide +kernel : pins 176 208 = some (3, 210, 5, 0, [])) (v := a5) rfl
        obtain ⟨n14, w210, l14, b210, e210, h⟩ := w_iald W h (by decide +kernel : pins 176 210 = some (24, 211, 0, 0, [])) (by decide)
        obtain ⟨n15, l15, h⟩ := v_al h (by decide +kernel : pins 176 211 = some (5, 212, 0, 0, [])) (v := t) rfl
        obtain ⟨n16, l16, h⟩ := v_il h (by decide +kernel : pins 176 212 = some (3, 213, 1, 0, [])) (v := hh) rfl
        obtain ⟨n17, r213, s213, l17, h213, h⟩ := pinv_call h (by decide +kernel : pins 176 213 = some (36, 216, 148, 0, [2]))
        have h213 : prun n17 148 0 (lv_args 0 [.ref t, .int hh]) [] σ = some (r213, s213) := h213
        obtain ⟨es213, w213, er213, f213⟩ := pc_address W h213
        have er213 : r213 = some (.int w213) := er213
        have et213 : s213 = σ := es213
        rw [et213] at h
        subst er213
        have h : prun n17 176 216 [(5, .int a5), (4, .int a4), (3, .int sort), (0, .ref t), (1, .int hh), (2, .int n0)] [.int w213, .int w210] σ = some x := h
        obtain ⟨n18, l18, ⟨c216, h⟩ | ⟨c216, h⟩⟩ := u_ic1 h (by decide +kernel : pins 176 216 = some (17, 219, 1, ((223 : Nat) : Int), []))
        · obtain ⟨n19, w223, l19, ⟨e223, i223⟩, h⟩ := u_ic h (by decide +kernel : pins 176 223 = some (0, 224, 0, 0, [])) (by decide)
          obtain ⟨n20, l20, h⟩ := v_is h (by decide +kernel : pins 176 224 = some (6, 226, 4, 0, []))
          have h : prun n20 176 226 [(4, .int w223), (5, .int a5), (3, .int sort), (0, .ref t), (1, .int hh), (2, .int n0)] [] σ = some x := h
          obtain ⟨n21, w226, l21, e226, h⟩ := u_inc h (by decide +kernel : pins 176 226 = some (9, 229, 5, 1, [])) (v := a5) rfl
          have h : prun n21 176 229 [(5, .int w226), (4, .int w223), (3, .int sort), (0, .ref t), (1, .int hh), (2, .int n0)] [] σ = some x := h
          obtain ⟨n22, l22, h⟩ := u_go h (by decide +kernel : pins 176 229 = some (20, 232, 0, ((193 : Nat) : Int), []))
          have h := prun_lv h (lv' := [(5, .int w226), (4, .int w223), (3, .int sort), (0, .ref t), (1, .int hh), (2, .int n0)]) (lvLe.cons (lvLe.cons (lvLe.cons (lvLe.cons (lvLe.cons (lvLe.cons lvLe.nil rfl) rfl) rfl) rfl) rfl) rfl) (by decide : ([5, 4, 3, 0, 1, 2] : List Nat).Nodup) (by decide : ([5, 4, 3, 0, 1, 2] : List Nat).Nodup)
          exact ih n22 (by omega) _ _ _ x W trivial h
        · obtain ⟨n23, w219, l23, ⟨e219, i219⟩, h⟩ := u_ic h (by decide +kernel : pins 176 219 = some (0, 220, 1, 0, [])) (by decide)
          obtain ⟨n24, l24, h⟩ := u_go h (by decide +kernel : pins 176 220 = some (20, 223, 0, ((224 : Nat) : Int), []))
          obtain ⟨n25, l25, h⟩ := v_is h (by decide +kernel : pins 176 224 = some (6, 226, 4, 0, []))
          have h : prun n25 176 226 [(4, .int w219), (5, .int a5), (3, .int sort), (0, .ref t), (1, .int hh), (2, .int n0)] [] σ = some x := h
          obtain ⟨n26, w226, l26, e226, h⟩ := u_inc h (by decide +kernel : pins 176 226 = some (9, 229, 5, 1, [])) (v := a5) rfl
          have h : prun n26 176 229 [(5, .int w226), (4, .int w219), (3, .int sort), (0, .ref t), (1, .int hh), (2, .int n0)] [] σ = some x := h
          obtain ⟨n27, l27, h⟩ := u_go h (by decide +kernel : pins 176 229 = some (20, 232, 0, ((193 : Nat) : Int), []))
          have h := prun_lv h (lv' := [(5, .int w226), (4, .int w219), (3, .int sort), (0, .ref t), (1, .int hh), (2, .int n0)]) (lvLe.cons (lvLe.cons (lvLe.cons (lvLe.cons (lvLe.cons (lvLe.cons lvLe.nil rfl) rfl) rfl) rfl) rfl) rfl) (by decide : ([5, 4, 3, 0, 1, 2] : List Nat).Nodup) (by decide : ([5, 4, 3, 0, 1, 2] : List Nat).Nodup)
          exact ih n27 (by omega) _ _ _ x W trivial h
theorem pc_ask_r {t : Nat} {A : Nat → Nat} {hh sort n0 : Int32} : ∀ (n : Nat) (a7 a6 a5 a4 : Int32) (σ : ps) (x : Option Value × ps), Wld t A σ → (True) → prun n 176 396 [(7, .int a7), (6, .int a6), (5, .int a5), (4, .int a4), (3, .int sort), (0, .ref t), (1, .int hh), (2, .int n0)] [] σ = some x → ∃ (m : Nat) (a72 a62 a52 a42 : Int32), prun m 176 442 [(7, .int a72), (6, .int a62), (5, .int a52), (4, .int a42), (3, .int sort), (0, .ref t), (1, .int hh), (2, .int n0)] [] σ = some x := by
  intro n
  induction n using Nat.strongRecOn with
  | ind n ih =>
    intro a7 a6 a5 a4 σ x W I h
    obtain ⟨n1, l1, h⟩ := v_il h (by decide +kernel : pins 176 396 = some (3, 398, 5, 0, [])) (v := a5) rfl
    obtain ⟨n2, w398, l2, ⟨e398, i398⟩, h⟩ := u_ic h (by decide +kernel : pins 176 398 = some (0, 399, 4, 0, [])) (by decide)
    obtain ⟨n3, l3, h⟩ := v_il h (by decide +kernel : pins 176 399 = some (3, 400, 1, 0, [])) (v := hh) rfl
    obtain ⟨n4, w400, l4, e400, h⟩ := u_mul h (by decide +kernel : pins 176 400 = some (10, 401, 2, 0, []))
    obtain ⟨n5, l5, h⟩ := v_al h (by decide +kernel : pins 176 401 = some (5, 402, 0, 0, [])) (v := t) rfl
    obtain ⟨n6, l6, h⟩ := w_row (k := 31) W h (by decide +kernel : pins 176 402 = some (22, 405, 13, 31, [])) (by decide)
    obtain ⟨n7, l7, h⟩ := v_il h (by decide +kernel : pins 176 405 = some (3, 406, 1, 0, [])) (v := hh) rfl
    obtain ⟨n8, w406, l8, b406, e406, h⟩ := w_iald W h (by decide +kernel : pins 176 406 = some (24, 407, 0, 0, [])) (by decide)
    obtain ⟨n9, w407, l9, e407, h⟩ := u_add h (by decide +kernel : pins 176 407 = some (10, 408, 0, 0, []))
    obtain ⟨n10, l10, ⟨c408, h⟩ | ⟨c408, h⟩⟩ := u_ic3 h (by decide +kernel : pins 176 408 = some (17, 411, 3, ((442 : Nat) : Int), []))
    · have h := prun_lv h (lv' := [(7, .int a7), (6, .int a6), (5, .int a5), (4, .int a4), (3, .int sort), (0, .ref t), (1, .int hh), (2, .int n0)]) (lvLe.cons (lvLe.cons (lvLe.cons (lvLe.cons (lvLe.cons (lvLe.cons (lvLe.cons (lvLe.cons lvLe.nil rfl) rfl) rfl) rfl) rfl) rfl) rfl) rfl) (by decide : ([7, 6, 5, 4, 3, 0, 1, 2] : List Nat).Nodup) (by decide : ([7, 6, 5, 4, 3, 0, 1, 2] : List Nat).Nodup)
      exact ⟨_, _, _, _, _, h⟩
    · obtain ⟨n11, l11, h⟩ := v_al h (by decide +kernel : pins 176 411 = some (5, 412, 0, 0, [])) (v := t) rfl
      obtain ⟨n12, l12, h⟩ := w_row (k := 29) W h (by decide +kernel : pins 176 412 = some (22, 415, 13, 29, [])) (by decide)
      obtain ⟨n13, w415, l13, ⟨e415, i415⟩, h⟩ := u_ic h (by decide +kernel : pins 176 415 = some (0, 417, 16, 0, [])) (by decide)
      obtain ⟨n14, l14, h⟩ := v_il h (by decide +kernel : pins 176 417 = some (3, 419, 5, 0, [])) (v := a5) rfl
      obtain ⟨n15, w419, l15, e419, h⟩ := u_mul h (by decide +kernel : pins 176 419 = some (10, 420, 2, 0, []))
      obtain ⟨n16, l16, h⟩ := v_al h (by decide +kernel : pins 176 420 = some (5, 421, 0, 0, [])) (v := t) rfl
      obtain ⟨n17, l17, h⟩ := w_row (k := 62) W h (by decide +kernel : pins 176 421 = some (22, 424, 13, 62, [])) (by decide)
      obtain ⟨n18, w424, l18, ⟨e424, i424⟩, h⟩ := u_ic h (by decide +kernel : pins 176 424 = some (0, 427, 240, 0, [])) (by decide)
      obtain ⟨n19, r427, s427, l19, h427, h⟩ := pinv_call h (by decide +kernel : pins 176 427 = some (36, 430, 140, 1, [4]))
      have h427 : prun n19 140 0 (lv_args 0 [.ref (A 29), .int w419, .ref (A 62), .int w424]) [] σ = some (r427, s427) := h427
      obtain ⟨es427, w427, er427, f427⟩ := pc_alike0 W h427 (by decide) (by decide)
      have er427 : r427 = some (.int w427) := er427
      have et427 : s427 = σ := es427
      rw [et427] at h
      subst er427
      have h : prun n19 176 430 [(7, .int a7), (6, .int a6), (5, .int a5), (4, .int a4), (3, .int sort), (0, .ref t), (1, .int hh), (2, .int n0)] [.int w427] σ = some x := h
      obtain ⟨n20, l20, ⟨c430, h⟩ | ⟨c430, h⟩⟩ := u_if0 h (by decide +kernel : pins 176 430 = some (16, 433, 0, ((436 : Nat) : Int), []))
      · obtain ⟨n21, w436, l21, e436, h⟩ := u_inc h (by decide +kernel : pins 176 436 = some (9, 439, 5, 1, [])) (v := a5) rfl
        have h : prun n21 176 439 [(5, .int w436), (7, .int a7), (6, .int a6), (4, .int a4), (3, .int sort), (0, .ref t), (1, .int hh), (2, .int n0)] [] σ = some x := h
        obtain ⟨n22, l22, h⟩ := u_go h (by decide +kernel : pins 176 439 = some (20, 442, 0, ((396 : Nat) : Int), []))
        have h := prun_lv h (lv' := [(7, .int a7), (6, .int a6), (5, .int w436), (4, .int a4), (3, .int sort), (0, .ref t), (1, .int hh), (2, .int n0)]) (lvLe.cons (lvLe.cons (lvLe.cons (lvLe.cons (lvLe.cons (lvLe.cons (lvLe.cons (lvLe.cons lvLe.nil rfl) rfl) rfl) rfl) rfl) rfl) rfl) rfl) (by decide : ([5, 7, 6, 4, 3, 0, 1, 2] : List Nat).Nodup) (by decide : ([7, 6, 5, 4, 3, 0, 1, 2] : List Nat).Nodup)
        exact ih n22 (by omega) _ _ _ _ _ x W trivial h
      · obtain ⟨n23, w433, l23, ⟨e433, i433⟩, h⟩ := u_ic h (by decide +kernel : pins 176 433 = some (0, 434, 0, 0, [])) (by decide)
        obtain ⟨n24, l24, h⟩ := v_is h (by decide +kernel : pins 176 434 = some (6, 436, 4, 0, []))
        have h : prun n24 176 436 [(4, .int w433), (7, .int a7), (6, .int a6), (5, .int a5), (3, .int sort), (0, .ref t), (1, .int hh), (2, .int n0)] [] σ = some x := h
        obtain ⟨n25, w436, l25, e436, h⟩ := u_inc h (by decide +kernel : pins 176 436 = some (9, 439, 5, 1, [])) (v := a5) rfl
        have h : prun n25 176 439 [(5, .int w436), (4, .int w433), (7, .int a7), (6, .int a6), (3, .int sort), (0, .ref t), (1, .int hh), (2, .int n0)] [] σ = some x := h
        obtain ⟨n26, l26, h⟩ := u_go h (by decide +kernel : pins 176 439 = some (20, 442, 0, ((396 : Nat) : Int), []))
        have h := prun_lv h (lv' := [(7, .int a7), (6, .int a6), (5, .int w436), (4, .int w433), (3, .int sort), (0, .ref t), (1, .int hh), (2, .int n0)]) (lvLe.cons (lvLe.cons (lvLe.cons (lvLe.cons (lvLe.cons (lvLe.cons (lvLe.cons (lvLe.cons lvLe.nil rfl) rfl) rfl) rfl) rfl) rfl) rfl) rfl) (by decide : ([5, 4, 7, 6, 3, 0, 1, 2] : List Nat).Nodup) (by decide : ([7, 6, 5, 4, 3, 0, 1, 2] : List Nat).Nodup)
        exact ih n26 (by omega) _ _ _ _ _ x W trivial h
theorem pc_ask_s {t : Nat} {A : Nat → Nat} {hh sort n0 : Int32} : ∀ (n : Nat), (∀ (a7 a6 a5 a4 : Int32) (σ : ps) (x : Option Value × ps), Wld t A σ → prun n 176 253 [(7, .int a7), (6, .int a6), (5, .int a5), (4, .int a4), (3, .int sort), (0, .ref t), (1, .int hh), (2, .int n0)] [] σ = some x → ∃ (m : Nat) (a7 a6 a5 a4 : Int32), prun m 176 391 [(7, .int a7), (6, .int a6), (5, .int a5), (4, .int a4), (3, .int sort), (0, .ref t), (1, .int hh), (2, .int n0)] [] σ = some x) ∧ (∀ (a7 a6 a5 a4 : Int32) (σ : ps) (x : Option Value × ps), Wld t A σ → prun n 176 300 [(7, .int a7), (6, .int a6), (5, .int a5), (4, .int a4), (3, .int sort), (0, .ref t), (1, .int hh), (2, .int n0)] [] σ = some x → ∃ (m : Nat) (a7 a6 a5 a4 : Int32), prun m 176 391 [(7, .int a7), (6, .int a6), (5, .int a5), (4, .int a4), (3, .int sort), (0, .ref t), (1, .int hh), (2, .int n0)] [] σ = some x) := by
  intro n
  induction n using Nat.strongRecOn with
  | ind n ih =>
    constructor
    · intro a7 a6 a5 a4 σ x W h
      obtain ⟨n1, l1, h⟩ := v_il h (by decide +kernel : pins 176 253 = some (3, 255, 5, 0, [])) (v := a5) rfl
      obtain ⟨n2, l2, h⟩ := v_al h (by decide +kernel : pins 176 255 = some (5, 256, 0, 0, [])) (v := t) rfl
      obtain ⟨n3, l3, h⟩ := w_row (k := 24) W h (by decide +kernel : pins 176 256 = some (22, 259, 13, 24, [])) (by decide)
      obtain ⟨n4, l4, h⟩ := v_il h (by decide +kernel : pins 176 259 = some (3, 260, 1, 0, [])) (v := hh) rfl
      obtain ⟨n5, w260, l5, b260, e260, h⟩ := w_iald W h (by decide +kernel : pins 176 260 = some (24, 261, 0, 0, [])) (by decide)
      obtain ⟨n6, l6, ⟨c261, h⟩ | ⟨c261, h⟩⟩ := u_ic3 h (by decide +kernel : pins 176 261 = some (17, 264, 3, ((391 : Nat) : Int), []))
      · have h := prun_lv h (lv' := [(7, .int a7), (6, .int a6), (5, .int a5), (4, .int a4), (3, .int sort), (0, .ref t), (1, .int hh), (2, .int n0)]) (lvLe.cons (lvLe.cons (lvLe.cons (lvLe.cons (lvLe.cons (lvLe.cons (lvLe.cons (lvLe.cons lvLe.nil rfl) rfl) rfl) rfl) rfl) rfl) rfl) rfl) (by decide : ([7, 6, 5, 4, 3, 0, 1, 2] : List Nat).Nodup) (by decide : ([7, 6, 5, 4, 3, 0, 1, 2] : List Nat).Nodup)
        exact ⟨_, _, _, _, _, h⟩
      · obtain ⟨n7, l7, h⟩ := v_al h (by decide +kernel : pins 176 264 = some (5, 265, 0, 0, [])) (v := t) rfl
        obtain ⟨n8, l8, h⟩ := w_row (k := 22) W h (by decide +kernel : pins 176 265 = some (22, 268, 13, 22, [])) (by decide)
        obtain ⟨n9, w268, l9, ⟨e268, i268⟩, h⟩ := u_ic h (by decide +kernel : pins 176 268 = some (0, 270, 64, 0, [])) (by decide)
        obtain ⟨n10, l10, h⟩ := v_il h (by decide +kernel : pins 176 270 = some (3, 271, 1, 0, [])) (v := hh) rfl
        obtain ⟨n11, w271, l11, e271, h⟩ := u_mul h (by decide +kernel : pins 176 271 = some (10, 272, 2, 0, []))
        obtain ⟨n12, w272, l12, ⟨e272, i272⟩, h⟩ := u_ic h (by decide +kernel : pins 176 272 = some (0, 274, 16, 0, [])) (by decide)
        obtain ⟨n13, l13, h⟩ := v_il h (by decide +kernel : pins 176 274 = some (3, 276, 5, 0, [])) (v := a5) rfl
        obtain ⟨n14, w276, l14, e276, h⟩ := u_mul h (by decide +kernel : pins 176 276 = some (10, 277, 2, 0, []))
        obtain ⟨n15, w277, l15, e277, h⟩ := u_add h (by decide +kernel : pins 176 277 = some (10, 278, 0, 0, []))
        obtain ⟨n16, l16, h⟩ := v_al h (by decide +kernel : pins 176 278 = some (5, 279, 0, 0, [])) (v := t) rfl
        obtain ⟨n17, l17, h⟩ := w_row (k := 62) W h (by decide +kernel : pins 176 279 = some (22, 282, 13, 62, [])) (by decide)
        obtain ⟨n18, w282, l18, ⟨e282, i282⟩, h⟩ := u_ic h (by decide +kernel : pins 176 282 = some (0, 285, 240, 0, [])) (by decide)
        obtain ⟨n19, r285, s285, l19, h285, h⟩ := pinv_call h (by decide +kernel : pins 176 285 = some (36, 288, 140, 1, [4]))
        have h285 : prun n19 140 0 (lv_args 0 [.ref (A 22), .int w277, .ref (A 62), .int w282]) [] σ = some (r285, s285) := h285
        obtain ⟨es285, w285, er285, f285⟩ := pc_alike0 W h285 (by decide) (by decide)
        have er285 : r285 = some (.int w285) := er285
        have et285 : s285 = σ := es285
        rw [et285] at h
        subst er285
        have h : prun n19 176 288 [(7, .int a7), (6, .int a6), (5, .int a5), (4, .int a4), (3, .int sort), (0, .ref t), (1, .int hh), (2, .int n0)] [.int w285] σ = some x := h
        obtain ⟨n20, l20, ⟨c288, h⟩ | ⟨c288, h⟩⟩ := u_if1 h (by decide +kernel : pins 176 288 = some (16, 291, 1, ((294 : Nat) : Int), []))
        · obtain ⟨n21, w294, l21, ⟨e294, i294⟩, h⟩ := u_ic h (by decide +kernel : pins 176 294 = some (0, 295, 0, 0, [])) (by decide)
          obtain ⟨n22, l22, h⟩ := v_is h (by decide +kernel : pins 176 295 = some (6, 297, 6, 0, []))
          have h : prun n22 176 297 [(6, .int w294), (7, .int a7), (5, .int a5), (4, .int a4), (3, .int sort), (0, .ref t), (1, .int hh), (2, .int n0)] [] σ = some x := h
          obtain ⟨n23, w297, l23, ⟨e297, i297⟩, h⟩ := u_ic h (by decide +kernel : pins 176 297 = some (0, 298, 0, 0, [])) (by decide)
          obtain ⟨n24, l24, h⟩ := v_is h (by decide +kernel : pins 176 298 = some (6, 300, 7, 0, []))
          have h : prun n24 176 300 [(7, .int w297), (6, .int w294), (5, .int a5), (4, .int a4), (3, .int sort), (0, .ref t), (1, .int hh), (2, .int n0)] [] σ = some x := h
          have h := prun_lv h (lv' := [(7, .int w297), (6, .int w294), (5, .int a5), (4, .int a4), (3, .int sort), (0, .ref t), (1, .int hh), (2, .int n0)]) (lvLe.cons (lvLe.cons (lvLe.cons (lvLe.cons (lvLe.cons (lvLe.cons (lvLe.cons (lvLe.cons lvLe.nil rfl) rfl) rfl) rfl) rfl) rfl) rfl) rfl) (by decide : ([7, 6, 5, 4, 3, 0, 1, 2] : List Nat).Nodup) (by decide : ([7, 6, 5, 4, 3, 0, 1, 2] : List Nat).Nodup)
          exact (ih n24 (by omega)).2 _ _ _ _ _ x W h
        · obtain ⟨n25, l25, h⟩ := u_go h (by decide +kernel : pins 176 291 = some (20, 294, 0, ((385 : Nat) : Int), []))
          obtain ⟨n26, w385, l26, e385, h⟩ := u_inc h (by decide +kernel : pins 176 385 = some (9, 388, 5, 1, [])) (v := a5) rfl
          have h : prun n26 176 388 [(5, .int w385), (7, .int a7), (6, .int a6), (4, .int a4), (3, .int sort), (0, .ref t), (1, .int hh), (2, .int n0)] [] σ = some x := h
          obtain ⟨n27, l27, h⟩ := u_go h (by decide +kernel : pins 176 388 = some (20, 391, 0, ((253 : Nat) : Int), []))
          have h := prun_lv h (lv' := [(7, .int a7), (6, .int a6), (5, .int w385), (4, .int a4), (3, .int sort), (0, .ref t), (1, .int hh), (2, .int n0)]) (lvLe.cons (lvLe.cons (lvLe.cons (lvLe.cons (lvLe.cons (lvLe.cons (lvLe.cons (lvLe.cons lvLe.nil rfl) rfl) rfl) rfl) rfl) rfl) rfl) rfl) (by decide : ([5, 7, 6, 4, 3, 0, 1, 2] : List Nat).Nodup) (by decide : ([7, 6, 5, 4, 3, 0, 1, 2] : List Nat).Nodup)
          exact (ih n27 (by omega)).1 _ _ _ _ _ x W h
    · intro a7 a6 a5 a4 σ x W h
      obtain ⟨n1, l1, h⟩ := v_il h (by decide +kernel : pins 176 300 = some (3, 302, 7, 0, [])) (v := a7) rfl
      obtain ⟨n2, l2, h⟩ := v_il h (by decide +kernel : pins 176 302 = some (3, 303, 2, 0, [])) (v := n0) rfl
      obtain ⟨n3, l3, ⟨c303, h⟩ | ⟨c303, h⟩⟩ := u_ic3 h (by decide +kernel : pins 176 303 = some (17, 306, 3, ((368 : Nat) : Int), []))
      · obtain ⟨n4, l4, h⟩ := v_il h (by decide +kernel : pins 176 368 = some (3, 370, 4, 0, [])) (v := a4) rfl
        obtain ⟨n5, l5, ⟨c370, h⟩ | ⟨c370, h⟩⟩ := u_if1 h (by decide +kernel : pins 176 370 = some (16, 373, 1, ((378 : Nat) : Int), []))
        · obtain ⟨n6, w378, l6, ⟨e378, i378⟩, h⟩ := u_ic h (by decide +kernel : pins 176 378 = some (0, 379, 1, 0, [])) (by decide)
          obtain ⟨n7, l7, h⟩ := u_go h (by decide +kernel : pins 176 379 = some (20, 382, 0, ((383 : Nat) : Int), []))
          obtain ⟨n8, l8, h⟩ := v_is h (by decide +kernel : pins 176 383 = some (6, 385, 4, 0, []))
          have h : prun n8 176 385 [(4, .int w378), (7, .int a7), (6, .int a6), (5, .int a5), (3, .int sort), (0, .ref t), (1, .int hh), (2, .int n0)] [] σ = some x := h
          obtain ⟨n9, w385, l9, e385, h⟩ := u_inc h (by decide +kernel : pins 176 385 = some (9, 388, 5, 1, [])) (v := a5) rfl
          have h : prun n9 176 388 [(5, .int w385), (4, .int w378), (7, .int a7), (6, .int a6), (3, .int sort), (0, .ref t), (1, .int hh), (2, .int n0)] [] σ = some x := h
          obtain ⟨n10, l10, h⟩ := u_go h (by decide +kernel : pins 176 388 = some (20, 391, 0, ((253 : Nat) : Int), []))
          have h := prun_lv h (lv' := [(7, .int a7), (6, .int a6), (5, .int w385), (4, .int w378), (3, .int sort), (0, .ref t), (1, .int hh), (2, .int n0)]) (lvLe.cons (lvLe.cons (lvLe.cons (lvLe.cons (lvLe.cons (lvLe.cons (lvLe.cons (lvLe.cons lvLe.nil rfl) rfl) rfl) rfl) rfl) rfl) rfl) rfl) (by decide : ([5, 4, 7, 6, 3, 0, 1, 2] : List Nat).Nodup) (by decide : ([7, 6, 5, 4, 3, 0, 1, 2] : List Nat).Nodup)
          exact (ih n10 (by omega)).1 _ _ _ _ _ x W h
        · obtain ⟨n11, l11, h⟩ := v_il h (by decide +kernel : pins 176 373 = some (3, 375, 6, 0, [])) (v := a6) rfl
          obtain ⟨n12, l12, ⟨c375, h⟩ | ⟨c375, h⟩⟩ := u_if1 h (by decide +kernel : pins 176 375 = some (16, 378, 1, ((382 : Nat) : Int), []))
          · obtain ⟨n13, w382, l13, ⟨e382, i382⟩, h⟩ := u_ic h (by decide +kernel : pins 176 382 = some (0, 383, 0, 0, [])) (by decide)
            obtain ⟨n14, l14, h⟩ := v_is h (by decide +kernel : pins 176 383 = some (6, 385, 4, 0, []))
            have h : prun n14 176 385 [(4, .int w382), (7, .int a7), (6, .int a6), (5, .int a5), (3, .int sort), (0, .ref t), (1, .int hh), (2, .int n0)] [] σ = some x := h
            obtain ⟨n15, w385, l15, e385, h⟩ := u_inc h (by decide +kernel : pins 176 385 = some (9, 388, 5, 1, [])) (v := a5) rfl
            have h : prun n15 176 388 [(5, .int w385), (4, .int w382), (7, .int a7), (6, .int a6), (3, .int sort), (0, .ref t), (1, .int hh), (2, .int n0)] [] σ = some x := h
            obtain ⟨n16, l16, h⟩ := u_go h (by decide +kernel : pins 176 388 = some (20, 391, 0, ((253 : Nat) : Int), []))
            have h := prun_lv h (lv' := [(7, .int a7), (6, .int a6), (5, .int w385), (4, .int w382), (3, .int sort), (0, .ref t), (1, .int hh), (2, .int n0)]) (lvLe.cons (lvLe.cons (lvLe.cons (lvLe.cons (lvLe.cons (lvLe.cons (lvLe.cons (lvLe.cons lvLe.nil rfl) rfl) rfl) rfl) rfl) rfl) rfl) rfl) (by decide : ([5, 4, 7, 6, 3, 0, 1, 2] : List Nat).Nodup) (by decide : ([7, 6, 5, 4, 3, 0, 1, 2] : List Nat).Nodup)
            exact (ih n16 (by omega)).1 _ _ _ _ _ x W h
          · obtain ⟨n17, w378, l17, ⟨e378, i378⟩, h⟩ := u_ic h (by decide +kernel : pins 176 378 = some (0, 379, 1, 0, [])) (by decide)
            obtain ⟨n18, l18, h⟩ := u_go h (by decide +kernel : pins 176 379 = some (20, 382, 0, ((383 : Nat) : Int), []))
            obtain ⟨n19, l19, h⟩ := v_is h (by decide +kernel : pins 176 383 = some (6, 385, 4, 0, []))
            have h : prun n19 176 385 [(4, .int w378), (7, .int a7), (6, .int a6), (5, .int a5), (3, .int sort), (0, .ref t), (1, .int hh), (2, .int n0)] [] σ = some x := h
            obtain ⟨n20, w385, l20, e385, h⟩ := u_inc h (by decide +kernel : pins 176 385 = some (9, 388, 5, 1, [])) (v := a5) rfl
            have h : prun n20 176 388 [(5, .int w385), (4, .int w378), (7, .int a7), (6, .int a6), (3, .int sort), (0, .ref t), (1, .int hh), (2, .int n0)] [] σ = some x := h
            obtain ⟨n21, l21, h⟩ := u_go h (by decide +kernel : pins 176 388 = some (20, 391, 0, ((253 : Nat) : Int), []))
            have h := prun_lv h (lv' := [(7, .int a7), (6, .int a6), (5, .int w385), (4, .int w378), (3, .int sort), (0, .ref t), (1, .int hh), (2, .int n0)]) (lvLe.cons (lvLe.cons (lvLe.cons (lvLe.cons (lvLe.cons (lvLe.cons (lvLe.cons (lvLe.cons lvLe.nil rfl) rfl) rfl) rfl) rfl) rfl) rfl) rfl) (by decide : ([5, 4, 7, 6, 3, 0, 1, 2] : List Nat).Nodup) (by decide : ([7, 6, 5, 4, 3, 0, 1, 2] : List Nat).Nodup)
            exact (ih n21 (by omega)).1 _ _ _ _ _ x W h
      · obtain ⟨n22, l22, h⟩ := v_il h (by decide +kernel : pins 176 306 = some (3, 308, 6, 0, [])) (v := a6) rfl
        obtain ⟨n23, l23, ⟨c308, h⟩ | ⟨c308, h⟩⟩ := u_if1 h (by decide +kernel : pins 176 308 = some (16, 311, 1, ((355 : Nat) : Int), []))
        · obtain ⟨n24, w355, l24, ⟨e355, i355⟩, h⟩ := u_ic h (by decide +kernel : pins 176 355 = some (0, 356, 1, 0, [])) (by decide)
          obtain ⟨n25, l25, h⟩ := u_go h (by decide +kernel : pins 176 356 = some (20, 359, 0, ((360 : Nat) : Int), []))
          obtain ⟨n26, l26, h⟩ := v_is h (by decide +kernel : pins 176 360 = some (6, 362, 6, 0, []))
          have h : prun n26 176 362 [(6, .int w355), (7, .int a7), (5, .int a5), (4, .int a4), (3, .int sort), (0, .ref t), (1, .int hh), (2, .int n0)] [] σ = some x := h
          obtain ⟨n27, w362, l27, e362, h⟩ := u_inc h (by decide +kernel : pins 176 362 = some (9, 365, 7, 1, [])) (v := a7) rfl
          have h : prun n27 176 365 [(7, .int w362), (6, .int w355), (5, .int a5), (4, .int a4), (3, .int sort), (0, .ref t), (1, .int hh), (2, .int n0)] [] σ = some x := h
          obtain ⟨n28, l28, h⟩ := u_go h (by decide +kernel : pins 176 365 = some (20, 368, 0, ((300 : Nat) : Int), []))
          have h := prun_lv h (lv' := [(7, .int w362), (6, .int w355), (5, .int a5), (4, .int a4), (3, .int sort), (0, .ref t), (1, .int hh), (2, .int n0)]) (lvLe.cons (lvLe.cons (lvLe.cons (lvLe.cons (lvLe.cons (lvLe.cons (lvLe.cons (lvLe.cons lvLe.nil rfl) rfl) rfl) rfl) rfl) rfl) rfl) rfl) (by decide : ([7, 6, 5, 4, 3, 0, 1, 2] : List Nat).Nodup) (by decide : ([7, 6, 5, 4, 3, 0, 1, 2] : List Nat).Nodup)
          exact (ih n28 (by omega)).2 _ _ _ _ _ x W h
        · obtain ⟨n29, l29, h⟩ := v_al h (by decide +kernel : pins 176 311 = some (5, 312, 0, 0, [])) (v := t) rfl
          obtain ⟨n30, l30, h⟩ := w_row (k := 67) W h (by decide +kernel : pins 176 312 = some (22, 315, 13, 67, [])) (by decide)
          obtain ⟨n31, l31, h⟩ := v_il h (by decide +kernel : pins 176 315 = some (3, 317, 7, 0, [])) (v := a7) rfl
          obtain ⟨n32, w317, l32, b317, e317, h⟩ := w_iald W h (by decide +kernel : pins 176 317 = some (24, 318, 0, 0, [])) (by decide)
          obtain ⟨n33, l33, h⟩ := v_al h (by decide +kernel : pins 176 318 = some (5, 319, 0, 0, [])) (v := t) rfl
          obtain ⟨n34, l34, h⟩ := w_row (k := 23) W h (by decide +kernel : pins 176 319 = some (22, 322, 13, 23, [])) (by decide)
          obtain ⟨n35, w322, l35, ⟨e322, i322⟩, h⟩ := u_ic h (by decide +kernel : pins 176 322 = some (0, 323, 4, 0, [])) (by decide)
          obtain ⟨n36, l36, h⟩ := v_il h (by decide +kernel : pins 176 323 = some (3, 324, 1, 0, [])) (v := hh) rfl
          obtain ⟨n37, w324, l37, e324, h⟩ := u_mul h (by decide +kernel : pins 176 324 = some (10, 325, 2, 0, []))
          obtain ⟨n38, l38, h⟩ := v_il h (by decide +kernel : pins 176 325 = some (3, 327, 5, 0, [])) (v := a5) rfl
          obtain ⟨n39, w327, l39, e327, h⟩ := u_add h (by decide +kernel : pins 176 327 = some (10, 328, 0, 0, []))
          obtain ⟨n40, w328, l40, b328, e328, h⟩ := w_iald W h (by decide +kernel : pins 176 328 = some (24, 329, 0, 0, [])) (by decide)
          obtain ⟨n41, l41, ⟨c329, h⟩ | ⟨c329, h⟩⟩ := u_ic1 h (by decide +kernel : pins 176 329 = some (17, 332, 1, ((359 : Nat) : Int), []))
          · obtain ⟨n42, w359, l42, ⟨e359, i359⟩, h⟩ := u_ic h (by decide +kernel : pins 176 359 = some (0, 360, 0, 0, [])) (by decide)
            obtain ⟨n43, l43, h⟩ := v_is h (by decide +kernel : pins 176 360 = some (6, 362, 6, 0, []))
            have h : prun n43 176 362 [(6, .int w359), (7, .int a7), (5, .int a5), (4, .int a4), (3, .int sort), (0, .ref t), (1, .int hh), (2, .int n0)] [] σ = some x := h
            obtain ⟨n44, w362, l44, e362, h⟩ := u_inc h (by decide +kernel : pins 176 362 = some (9, 365, 7, 1, [])) (v := a7) rfl
            have h : prun n44 176 365 [(7, .int w362), (6, .int w359), (5, .int a5), (4, .int a4), (3, .int sort), (0, .ref t), (1, .int hh), (2, .int n0)] [] σ = some x := h
            obtain ⟨n45, l45, h⟩ := u_go h (by decide +kernel : pins 176 365 = some (20, 368, 0, ((300 : Nat) : Int), []))
            have h := prun_lv h (lv' := [(7, .int w362), (6, .int w359), (5, .int a5), (4, .int a4), (3, .int sort), (0, .ref t), (1, .int hh), (2, .int n0)]) (lvLe.cons (lvLe.cons (lvLe.cons (lvLe.cons (lvLe.cons (lvLe.cons (lvLe.cons (lvLe.cons lvLe.nil rfl) rfl) rfl) rfl) rfl) rfl) rfl) rfl) (by decide : ([7, 6, 5, 4, 3, 0, 1, 2] : List Nat).Nodup) (by decide : ([7, 6, 5, 4, 3, 0, 1, 2] : List Nat).Nodup)
            exact (ih n45 (by omega)).2 _ _ _ _ _ x W h
          · obtain ⟨n46, l46, h⟩ := v_al h (by decide +kernel : pins 176 332 = some (5, 333, 0, 0, [])) (v := t) rfl
            obtain ⟨n47, l47, h⟩ := w_row (k := 63) W h (by decide +kernel : pins 176 333 = some (22, 336, 13, 63, [])) (by decide)
            obtain ⟨n48, w336, l48, ⟨e336, i336⟩, h⟩ := u_ic h (by decide +kernel : pins 176 336 = some (0, 338, 16, 0, [])) (by decide)
            obtain ⟨n49, l49, h⟩ := v_il h (by decide +kernel : pins 176 338 = some (3, 340, 7, 0, [])) (v := a7) rfl
            obtain ⟨n50, w340, l50, e340, h⟩ := u_mul h (by decide +kernel : pins 176 340 = some (10, 341, 2, 0, []))
            obtain ⟨n51, l51, h⟩ := v_al h (by decide +kernel : pins 176 341 = some (5, 342, 0, 0, [])) (v := t) rfl
            obtain ⟨n52, l52, h⟩ := w_row (k := 21) W h (by decide +kernel : pins 176 342 = some (22, 345, 13, 21, [])) (by decide)
            obtain ⟨n53, w345, l53, ⟨e345, i345⟩, h⟩ := u_ic h (by decide +kernel : pins 176 345 = some (0, 347, 16, 0, [])) (by decide)
            obtain ⟨n54, l54, h⟩ := v_il h (by decide +kernel : pins 176 347 = some (3, 348, 1, 0, [])) (v := hh) rfl
            obtain ⟨n55, w348, l55, e348, h⟩ := u_mul h (by decide +kernel : pins 176 348 = some (10, 349, 2, 0, []))
            obtain ⟨n56, r349, s349, l56, h349, h⟩ := pinv_call h (by decide +kernel : pins 176 349 = some (36, 352, 140, 1, [4]))
            have h349 : prun n56 140 0 (lv_args 0 [.ref (A 63), .int w340, .ref (A 21), .int w348]) [] σ = some (r349, s349) := h349
            obtain ⟨es349, w349, er349, f349⟩ := pc_alike0 W h349 (by decide) (by decide)
            have er349 : r349 = some (.int w349) := er349
            have et349 : s349 = σ := es349
            rw [et349] at h
            subst er349
            have h : prun n56 176 352 [(7, .int a7), (6, .int a6), (5, .int a5), (4, .int a4), (3, .int sort), (0, .ref t), (1, .int hh), (2, .int n0)] [.int w349] σ = some x := h
            obtain ⟨n57, l57, ⟨c352, h⟩ | ⟨c352, h⟩⟩ := u_if0 h (by decide +kernel : pins 176 352 = some (16, 355, 0, ((359 : Nat) : Int), []))
            · obtain ⟨n58, w359, l58, ⟨e359, i359⟩, h⟩ := u_ic h (by decide +kernel : pins 176 359 = some (0, 360, 0, 0, [])) (by decide)
              obtain ⟨n59, l59, h⟩ := v_is h (by decide +kernel : pins 176 360 = some (6, 362, 6, 0, []))
              have h : prun n59 176 362 [(6, .int w359), (7, .int a7), (5, .int a5), (4, .int a4), (3, .int sort), (0, .ref t), (1, .int hh), (2, .int n0)] [] σ = some x := h
              obtain ⟨n60, w362, l60, e362, h⟩ := u_inc h (by decide +kernel : pins 176 362 = some (9, 365, 7, 1, [])) (v := a7) rfl
              have h : prun n60 176 365 [(7, .int w362), (6, .int w359), (5, .int a5), (4, .int a4), (3, .int sort), (0, .ref t), (1, .int hh), (2, .int n0)] [] σ = some x := h
              obtain ⟨n61, l61, h⟩ := u_go h (by decide +kernel : pins 176 365 = some (20, 368, 0, ((300 : Nat) : Int), []))
              have h := prun_lv h (lv' := [(7, .int w362), (6, .int w359), (5, .int a5), (4, .int a4), (3, .int sort), (0, .ref t), (1, .int hh), (2, .int n0)]) (lvLe.cons (lvLe.cons (lvLe.cons (lvLe.cons (lvLe.cons (lvLe.cons (lvLe.cons (lvLe.cons lvLe.nil rfl) rfl) rfl) rfl) rfl) rfl) rfl) rfl) (by decide : ([7, 6, 5, 4, 3, 0, 1, 2] : List Nat).Nodup) (by decide : ([7, 6, 5, 4, 3, 0, 1, 2] : List Nat).Nodup)
              exact (ih n61 (by omega)).2 _ _ _ _ _ x W h
            · obtain ⟨n62, w355, l62, ⟨e355, i355⟩, h⟩ := u_ic h (by decide +kernel : pins 176 355 = some (0, 356, 1, 0, [])) (by decide)
              obtain ⟨n63, l63, h⟩ := u_go h (by decide +kernel : pins 176 356 = some (20, 359, 0, ((360 : Nat) : Int), []))
              obtain ⟨n64, l64, h⟩ := v_is h (by decide +kernel : pins 176 360 = some (6, 362, 6, 0, []))
              have h : prun n64 176 362 [(6, .int w355), (7, .int a7), (5, .int a5), (4, .int a4), (3, .int sort), (0, .ref t), (1, .int hh), (2, .int n0)] [] σ = some x := h
              obtain ⟨n65, w362, l65, e362, h⟩ := u_inc h (by decide +kernel : pins 176 362 = some (9, 365, 7, 1, [])) (v := a7) rfl
              have h : prun n65 176 365 [(7, .int w362), (6, .int w355), (5, .int a5), (4, .int a4), (3, .int sort), (0, .ref t), (1, .int hh), (2, .int n0)] [] σ = some x := h
              obtain ⟨n66, l66, h⟩ := u_go h (by decide +kernel : pins 176 365 = some (20, 368, 0, ((300 : Nat) : Int), []))
              have h := prun_lv h (lv' := [(7, .int w362), (6, .int w355), (5, .int a5), (4, .int a4), (3, .int sort), (0, .ref t), (1, .int hh), (2, .int n0)]) (lvLe.cons (lvLe.cons (lvLe.cons (lvLe.cons (lvLe.cons (lvLe.cons (lvLe.cons (lvLe.cons lvLe.nil rfl) rfl) rfl) rfl) rfl) rfl) rfl) rfl) (by decide : ([7, 6, 5, 4, 3, 0, 1, 2] : List Nat).Nodup) (by decide : ([7, 6, 5, 4, 3, 0, 1, 2] : List Nat).Nodup)
              exact (ih n66 (by omega)).2 _ _ _ _ _ x W h
set_option maxHeartbeats 2000000 in
theorem pc_ask1 {t n : Nat} {A : Nat → Nat} {hh n0 : Int32} {σ : ps} {x : Option Value × ps} (W : Wld t A σ) (h : prun n 176 0 (lv_args 0 [.ref t, .int hh, .int n0]) [] σ = some x) (hh0 : 0 ≤ hh.toInt ∧ hh.toInt ≤ 7) (HA : 0 ≤ (gI (vw t A σ) 46 0).toInt ∧ (gI (vw t A σ) 46 0).toInt < 800) (HM : 0 ≤ (gI (vw t A σ) 47 0).toInt ∧ (gI (vw t A σ) 47 0).toInt ≤ 1000) (hR : 0 ≤ (gI (vw t A σ) 31 hh.toNatClampNeg).toInt ∧ (gI (vw t A σ) 31 hh.toNatClampNeg).toInt ≤ 4) : x.1 = none ∧ SP t A σ x.2 ∧ ∃ V1, QAll (vw t A σ) V1 hh.toNatClampNeg (4 * hh.toNatClampNeg) ∧ (vw t A x.2 = V1 ∨ (FrS V1 (vw t A x.2) ∧ Snd V1 (vw t A x.2) 1) ∨ Rpl V1 (vw t A x.2) hh.toNatClampNeg) := by
  have h : prun n 176 0 [(0, .ref t), (1, .int hh), (2, .int n0)] [] σ = some x := h
  obtain ⟨n1, l1, h⟩ := v_al h (by decide +kernel : pins 176 0 = some (5, 1, 0, 0, [])) (v := t) rfl
  obtain ⟨n2, l2, h⟩ := w_row (k := 64) W h (by decide +kernel : pins 176 1 = some (22, 4, 13, 64, [])) (by decide)
  obtain ⟨n3, w4, l3, ⟨e4, i4⟩, h⟩ := u_ic h (by decide +kernel : pins 176 4 = some (0, 5, 0, 0, [])) (by decide)
  obtain ⟨n4, w5, l4, b5, e5, h⟩ := w_iald W h (by decide +kernel : pins 176 5 = some (24, 6, 0, 0, [])) (by decide)
  obtain ⟨n5, l5, h⟩ := v_is h (by decide +kernel : pins 176 6 = some (6, 7, 3, 0, []))
  have h : prun n5 176 7 [(3, .int w5), (0, .ref t), (1, .int hh), (2, .int n0)] [] σ = some x := h
  obtain ⟨n6, w7, l6, ⟨e7, i7⟩, h⟩ := u_ic h (by decide +kernel : pins 176 7 = some (0, 8, 4, 0, [])) (by decide)
  obtain ⟨n7, l7, h⟩ := v_il h (by decide +kernel : pins 176 8 = some (3, 9, 1, 0, [])) (v := hh) rfl
  obtain ⟨n8, w9, l8, e9, h⟩ := u_mul h (by decide +kernel : pins 176 9 = some (10, 10, 2, 0, []))
  obtain ⟨n9, l9, h⟩ := v_is h (by decide +kernel : pins 176 10 = some (6, 12, 4, 0, []))
  have h : prun n9 176 12 [(4, .int w9), (3, .int w5), (0, .ref t), (1, .int hh), (2, .int n0)] [] σ = some x := h
  have h := prun_lv h (lv' := [(4, .int w9), (3, .int w5), (0, .ref t), (1, .int hh), (2, .int n0)]) (lvLe.cons (lvLe.cons (lvLe.cons (lvLe.cons (lvLe.cons lvLe.nil rfl) rfl) rfl) rfl) rfl) (by decide : ([4, 3, 0, 1, 2] : List Nat).Nodup) (by decide : ([4, 3, 0, 1, 2] : List Nat).Nodup)
  obtain ⟨m1, c2, σ1, S1, Q, h⟩ := pc_ask_q hh0 _ _ _ x W (by rw [e9, n_mul (by rw [i7]; omega) (by rw [i7]; omega), i7]; omega) h
  have hn : (hh.toNatClampNeg : Int) = hh.toInt := n_clamp hh0.1
  have q9 : w9.toInt = 4 * hh.toInt := by rw [e9, n_mul (by rw [i7]; omega) (by rw [i7]; omega), i7]
  have n9 : w9.toNatClampNeg = 4 * hh.toNatClampNeg := by rw [clampc q9 (by omega)]; omega
  rw [n9] at Q
  have HA1 : 0 ≤ (gI (vw t A σ1) 46 0).toInt ∧ (gI (vw t A σ1) 46 0).toInt < 800 := by have : gI (vw t A σ1) 46 0 = gI (vw t A σ) 46 0 := (by unfold gI; rw [Q.1 46 0 (by decide) (by omega)]); rw [this]; exact HA
  have HM1 : 0 ≤ (gI (vw t A σ1) 47 0).toInt ∧ (gI (vw t A σ1) 47 0).toInt ≤ 1000 := by have : gI (vw t A σ1) 47 0 = gI (vw t A σ) 47 0 := (by unfold gI; rw [Q.1 47 0 (by decide) (by omega)]); rw [this]; exact HM
  have hR1 : 0 ≤ (gI (vw t A σ1) 31 hh.toNatClampNeg).toInt ∧ (gI (vw t A σ1) 31 hh.toNatClampNeg).toInt ≤ 4 := by have : gI (vw t A σ1) 31 hh.toNatClampNeg = gI (vw t A σ) 31 hh.toNatClampNeg := (by unfold gI; rw [Q.1 31 _ (by decide) (by omega)]); rw [this]; exact hR
  obtain ⟨n501, l501, h⟩ := v_al h (by decide +kernel : pins 176 146 = some (5, 147, 0, 0, [])) (v := t) rfl
  obtain ⟨n502, l502, h⟩ := w_row (k := 16) S1.1 h (by decide +kernel : pins 176 147 = some (22, 150, 13, 16, [])) (by decide)
  obtain ⟨n503, l503, h⟩ := v_il h (by decide +kernel : pins 176 150 = some (3, 151, 1, 0, [])) (v := hh) rfl
  obtain ⟨n504, w151, l504, b151, e151, h⟩ := w_iald S1.1 h (by decide +kernel : pins 176 151 = some (24, 152, 0, 0, [])) (by decide)
  obtain ⟨n505, w152, l505, ⟨e152, i152⟩, h⟩ := u_ic h (by decide +kernel : pins 176 152 = some (0, 153, 3, 0, [])) (by decide)
  obtain ⟨n506, l506, ⟨c153, h⟩ | ⟨c153, h⟩⟩ := u_ic0 h (by decide +kernel : pins 176 153 = some (17, 156, 0, ((157 : Nat) : Int), []))
  · obtain ⟨n507, l507, h⟩ := v_il h (by decide +kernel : pins 176 157 = some (3, 158, 3, 0, [])) (v := w5) rfl
    obtain ⟨n508, w158, l508, ⟨e158, i158⟩, h⟩ := u_ic h (by decide +kernel : pins 176 158 = some (0, 159, 1, 0, [])) (by decide)
    obtain ⟨n509, l509, ⟨c159, h⟩ | ⟨c159, h⟩⟩ := u_ic1 h (by decide +kernel : pins 176 159 = some (17, 162, 1, ((247 : Nat) : Int), []))
    · obtain ⟨n510, w247, l510, ⟨e247, i247⟩, h⟩ := u_ic h (by decide +kernel : pins 176 247 = some (0, 248, 0, 0, [])) (by decide)
      obtain ⟨n511, l511, h⟩ := v_is h (by decide +kernel : pins 176 248 = some (6, 250, 4, 0, []))
      have h : prun n511 176 250 [(4, .int w247), (3, .int w5), (0, .ref t), (1, .int hh), (2, .int n0)] [] σ1 = some x := h
      obtain ⟨n512, w250, l512, ⟨e250, i250⟩, h⟩ := u_ic h (by decide +kernel : pins 176 250 = some (0, 251, 0, 0, [])) (by decide)
      obtain ⟨n513, l513, h⟩ := v_is h (by decide +kernel : pins 176 251 = some (6, 253, 5, 0, []))
      have h : prun n513 176 253 [(5, .int w250), (4, .int w247), (3, .int w5), (0, .ref t), (1, .int hh), (2, .int n0)] [] σ1 = some x := h
      have h := prun_lv h (lv' := [(7, .int 0), (6, .int 0), (5, .int w250), (4, .int w247), (3, .int w5), (0, .ref t), (1, .int hh), (2, .int n0)]) (lvLe.cons (lvLe.cons (lvLe.cons (lvLe.cons (lvLe.cons (lvLe.cons lvLe.nil rfl) rfl) rfl) rfl) rfl) rfl) (by decide : ([5, 4, 3, 0, 1, 2] : List Nat).Nodup) (by decide : ([7, 6, 5, 4, 3, 0, 1, 2] : List Nat).Nodup)
      obtain ⟨m3, a7, a6, a5, a4, h⟩ := (pc_ask_s _).1 _ _ _ _ _ x S1.1 h
      obtain ⟨n701, w391, l701, ⟨e391, i391⟩, h⟩ := u_ic h (by decide +kernel : pins 176 391 = some (0, 392, 4, 0, [])) (by decide)
      obtain ⟨n702, l702, h⟩ := v_il h (by decide +kernel : pins 176 392 = some (3, 393, 1, 0, [])) (v := hh) rfl
      obtain ⟨n703, w393, l703, e393, h⟩ := u_mul h (by decide +kernel : pins 176 393 = some (10, 394, 2, 0, []))
      obtain ⟨n704, l704, h⟩ := v_is h (by decide +kernel : pins 176 394 = some (6, 396, 5, 0, []))
      have h : prun n704 176 396 [(5, .int w393), (7, .int a7), (6, .int a6), (4, .int a4), (3, .int w5), (0, .ref t), (1, .int hh), (2, .int n0)] [] σ1 = some x := h
      have h := prun_lv h (lv' := [(7, .int a7), (6, .int a6), (5, .int w393), (4, .int a4), (3, .int w5), (0, .ref t), (1, .int hh), (2, .int n0)]) (lvLe.cons (lvLe.cons (lvLe.cons (lvLe.cons (lvLe.cons (lvLe.cons (lvLe.cons (lvLe.cons lvLe.nil rfl) rfl) rfl) rfl) rfl) rfl) rfl) rfl) (by decide : ([5, 7, 6, 4, 3, 0, 1, 2] : List Nat).Nodup) (by decide : ([7, 6, 5, 4, 3, 0, 1, 2] : List Nat).Nodup)
      obtain ⟨m4, b7, b6, b5, b4, h⟩ := pc_ask_r _ _ _ _ _ _ x S1.1 trivial h
      obtain ⟨n801, l801, h⟩ := v_il h (by decide +kernel : pins 176 442 = some (3, 444, 4, 0, [])) (v := b4) rfl
      obtain ⟨n802, l802, ⟨c444, h⟩ | ⟨c444, h⟩⟩ := u_if0 h (by decide +kernel : pins 176 444 = some (16, 447, 0, ((457 : Nat) : Int), []))
      · have ex := u_ret37 h (by decide +kernel : pins 176 457 = some (37, 458, 0, 0, []))
        subst ex
        exact ⟨rfl, S1, vw t A σ1, Q, Or.inl rfl⟩
      · obtain ⟨n804, l804, h⟩ := v_al h (by decide +kernel : pins 176 447 = some (5, 448, 0, 0, [])) (v := t) rfl
        obtain ⟨n805, l805, h⟩ := w_row (k := 31) S1.1 h (by decide +kernel : pins 176 448 = some (22, 451, 13, 31, [])) (by decide)
        obtain ⟨n806, l806, h⟩ := v_il h (by decide +kernel : pins 176 451 = some (3, 452, 1, 0, [])) (v := hh) rfl
        obtain ⟨n807, w452, l807, b452, e452, h⟩ := w_iald S1.1 h (by decide +kernel : pins 176 452 = some (24, 453, 0, 0, [])) (by decide)
        obtain ⟨n808, w453, l808, ⟨e453, i453⟩, h⟩ := u_ic h (by decide +kernel : pins 176 453 = some (0, 454, 4, 0, [])) (by decide)
        obtain ⟨n809, l809, ⟨c454, h⟩ | ⟨c454, h⟩⟩ := u_ic1 h (by decide +kernel : pins 176 454 = some (17, 457, 1, ((458 : Nat) : Int), []))
        · obtain ⟨n810, w458, l810, ⟨e458, i458⟩, h⟩ := u_ic h (by decide +kernel : pins 176 458 = some (0, 459, 4, 0, [])) (by decide)
          obtain ⟨n811, l811, h⟩ := v_il h (by decide +kernel : pins 176 459 = some (3, 460, 1, 0, [])) (v := hh) rfl
          obtain ⟨n812, w460, l812, e460, h⟩ := u_mul h (by decide +kernel : pins 176 460 = some (10, 461, 2, 0, []))
          obtain ⟨n813, l813, h⟩ := v_al h (by decide +kernel : pins 176 461 = some (5, 462, 0, 0, [])) (v := t) rfl
          obtain ⟨n814, l814, h⟩ := w_row (k := 31) S1.1 h (by decide +kernel : pins 176 462 = some (22, 465, 13, 31, [])) (by decide)
          obtain ⟨n815, l815, h⟩ := v_il h (by decide +kernel : pins 176 465 = some (3, 466, 1, 0, [])) (v := hh) rfl
          obtain ⟨n816, w466, l816, b466, e466, h⟩ := w_iald S1.1 h (by decide +kernel : pins 176 466 = some (24, 467, 0, 0, [])) (by decide)
          obtain ⟨n817, w467, l817, e467, h⟩ := u_add h (by decide +kernel : pins 176 467 = some (10, 468, 0, 0, []))
          obtain ⟨n818, l818, h⟩ := v_is h (by decide +kernel : pins 176 468 = some (6, 470, 5, 0, []))
          have h : prun n818 176 470 [(5, .int w467), (7, .int b7), (6, .int b6), (4, .int b4), (3, .int w5), (0, .ref t), (1, .int hh), (2, .int n0)] [] σ1 = some x := h
          obtain ⟨n819, l819, h⟩ := v_al h (by decide +kernel : pins 176 470 = some (5, 471, 0, 0, [])) (v := t) rfl
          obtain ⟨n820, l820, h⟩ := w_row (k := 62) S1.1 h (by decide +kernel : pins 176 471 = some (22, 474, 13, 62, [])) (by decide)
          obtain ⟨n821, w474, l821, ⟨e474, i474⟩, h⟩ := u_ic h (by decide +kernel : pins 176 474 = some (0, 477, 240, 0, [])) (by decide)
          obtain ⟨n822, l822, h⟩ := v_al h (by decide +kernel : pins 176 477 = some (5, 478, 0, 0, [])) (v := t) rfl
          obtain ⟨n823, l823, h⟩ := w_row (k := 29) S1.1 h (by decide +kernel : pins 176 478 = some (22, 481, 13, 29, [])) (by decide)
          obtain ⟨n824, w481, l824, ⟨e481, i481⟩, h⟩ := u_ic h (by decide +kernel : pins 176 481 = some (0, 483, 16, 0, [])) (by decide)
          obtain ⟨n825, l825, h⟩ := v_il h (by decide +kernel : pins 176 483 = some (3, 485, 5, 0, [])) (v := w467) rfl
          obtain ⟨n826, w485, l826, e485, h⟩ := u_mul h (by decide +kernel : pins 176 485 = some (10, 486, 2, 0, []))
          obtain ⟨n827, r486, s486, l827, h486, h⟩ := pinv_call h (by decide +kernel : pins 176 486 = some (36, 489, 142, 1, [4]))
          have h486 : prun n827 142 0 (lv_args 0 [.ref (A 62), .int w474, .ref (A 29), .int w485]) [] σ1 = some (r486, s486) := h486
          obtain ⟨er486, S486, f486⟩ := pc_copy S1.1 h486 (by decide) (by decide)
          have er486 : r486 = none := er486
          subst er486
          try dsimp only at S486
          try dsimp only at f486
          have h : prun n827 176 489 [(5, .int w467), (7, .int b7), (6, .int b6), (4, .int b4), (3, .int w5), (0, .ref t), (1, .int hh), (2, .int n0)] [] s486 = some x := h
          obtain ⟨n828, l828, h⟩ := v_al h (by decide +kernel : pins 176 489 = some (5, 490, 0, 0, [])) (v := t) rfl
          obtain ⟨n829, l829, h⟩ := w_row (k := 30) S486.1 h (by decide +kernel : pins 176 490 = some (22, 493, 13, 30, [])) (by decide)
          obtain ⟨n830, l830, h⟩ := v_il h (by decide +kernel : pins 176 493 = some (3, 495, 5, 0, [])) (v := w467) rfl
          obtain ⟨n831, l831, h⟩ := v_al h (by decide +kernel : pins 176 495 = some (5, 496, 0, 0, [])) (v := t) rfl
          obtain ⟨n832, w496, l832, e496, h⟩ := w_fl S486.1 h (by decide +kernel : pins 176 496 = some (22, 499, 13, 0, []))
          obtain ⟨n833, w499, l833, e499, h⟩ := u_lc h (by decide +kernel : pins 176 499 = some (1, 502, 20, 0, []))
          have i499 : w499.toInt = 20 := by rw [e499]; decide
          obtain ⟨n834, w502, l834, e502, h⟩ := u_ladd h (by decide +kernel : pins 176 502 = some (11, 503, 0, 0, []))
          obtain ⟨n835, w503, l835, e503, h⟩ := u_lc h (by decide +kernel : pins 176 503 = some (1, 506, 7, 0, []))
          have i503 : w503.toInt = 7 := by rw [e503]; decide
          obtain ⟨n836, l836, h⟩ := v_al h (by decide +kernel : pins 176 506 = some (5, 507, 0, 0, [])) (v := t) rfl
          obtain ⟨n837, l837, h⟩ := w_row (k := 5) S486.1 h (by decide +kernel : pins 176 507 = some (22, 510, 13, 5, [])) (by decide)
          obtain ⟨n838, l838, h⟩ := v_il h (by decide +kernel : pins 176 510 = some (3, 511, 1, 0, [])) (v := hh) rfl
          obtain ⟨n839, w511, l839, b511, e511, h⟩ := w_iald S486.1 h (by decide +kernel : pins 176 511 = some (24, 512, 0, 0, [])) (by decide)
          obtain ⟨n840, w512, l840, e512, h⟩ := u_i2l h (by decide +kernel : pins 176 512 = some (13, 513, 0, 0, []))
          obtain ⟨n841, w513, l841, e513, h⟩ := u_lmul h (by decide +kernel : pins 176 513 = some (11, 514, 2, 0, []))
          obtain ⟨n842, w514, l842, e514, h⟩ := u_lc h (by decide +kernel : pins 176 514 = some (1, 517, 100, 0, []))
          have i514 : w514.toInt = 100 := by rw [e514]; decide
          obtain ⟨n843, w517, l843, e517, h⟩ := u_lrem h (by decide +kernel : pins 176 517 = some (11, 518, 4, 0, [])) (by rw [e514]; decide)
          obtain ⟨n844, w518, l844, e518, h⟩ := u_ladd h (by decide +kernel : pins 176 518 = some (11, 519, 0, 0, []))
          obtain ⟨n845, s519, l845, b519, S519, u519, h⟩ := w_last S486.1 h (by decide +kernel : pins 176 519 = some (30, 520, 0, 0, [])) (by decide)
          obtain ⟨n846, l846, h⟩ := v_al h (by decide +kernel : pins 176 520 = some (5, 521, 0, 0, [])) (v := t) rfl
          obtain ⟨n847, l847, h⟩ := w_row (k := 31) S519.1 h (by decide +kernel : pins 176 521 = some (22, 524, 13, 31, [])) (by decide)
          obtain ⟨n848, l848, h⟩ := v_il h (by decide +kernel : pins 176 524 = some (3, 525, 1, 0, [])) (v := hh) rfl
          obtain ⟨n849, l849, h⟩ := v_dup2 h (by decide +kernel : pins 176 525 = some (35, 526, 0, 0, []))
          obtain ⟨n850, w526, l850, b526, e526, h⟩ := w_iald S519.1 h (by decide +kernel : pins 176 526 = some (24, 527, 0, 0, [])) (by decide)
          obtain ⟨n851, w527, l851, ⟨e527, i527⟩, h⟩ := u_ic h (by decide +kernel : pins 176 527 = some (0, 528, 1, 0, [])) (by decide)
          obtain ⟨n852, w528, l852, e528, h⟩ := u_add h (by decide +kernel : pins 176 528 = some (10, 529, 0, 0, []))
          obtain ⟨n853, s529, l853, b529, S529, u529, h⟩ := w_iast S519.1 h (by decide +kernel : pins 176 529 = some (28, 530, 0, 0, [])) (by decide)
          have ex := u_ret37 h (by decide +kernel : pins 176 530 = some (37, 531, 0, 0, []))
          subst ex
          have q460 : w460.toInt = 4 * hh.toInt := by rw [e460, n_mul (by rw [i458]; omega) (by rw [i458]; omega), i458]
          have q466 : w466.toInt = (gI (vw t A σ1) 31 hh.toNatClampNeg).toInt := by rw [e466]
          have q452 : w452.toInt = (gI (vw t A σ1) 31 hh.toNatClampNeg).toInt := by rw [e452]
          have q467 : w467.toInt = 4 * hh.toInt + w466.toInt := by rw [addc e467 rfl (by omega) (by omega) (by omega) (by omega), q460]
          have n467 : (w467.toNatClampNeg : Int) = 4 * hh.toInt + w466.toInt := by rw [n_clamp (by omega), q467]
          have g31 : gI (vw t A s519) 31 hh.toNatClampNeg = gI (vw t A σ1) 31 hh.toNatClampNeg := by rw [u519, gI_ne (by decide)]; unfold gI; rw [f486 31 _ (by decide)]
          have q526 : w526 = gI (vw t A σ1) 31 hh.toNatClampNeg := by rw [e526, g31]
          have q528 : w528.toInt = (gI (vw t A σ1) 31 hh.toNatClampNeg).toInt + 1 := by rw [addc e528 i527 (by rw [q526]; omega) (by rw [q526]; omega) (by decide) (by decide), q526]
          have T : w496 = gL (vw t A σ1) 0 0 := by rw [e496]; unfold gL; rw [f486 0 0 (by decide)]
          refine ⟨rfl, (((S1.tr S486).tr S519).tr S529), vw t A σ1, Q, Or.inr (Or.inr ⟨?_, ?_, by omega, w517, ?_, ?_, ?_, ?_⟩)⟩
          · intro j q h1 h2 h3
            show vw t A s529 j q = _
            rw [u529]
            have z1 : up (vw t A s519) 31 hh.toNatClampNeg (.int w528) j q = vw t A s519 j q := by
              by_cases e : j = 31
              · subst e; exact up_ni (by decide) (fun e => h3 ⟨rfl, e⟩)
              · exact up_ne e
            rw [z1, u519]
            have z2 : up (vw t A s486) 30 w467.toNatClampNeg (.long w518) j q = vw t A s486 j q := by
              by_cases e : j = 30
              · subst e; exact up_ni (by decide) (fun e => h2 ⟨rfl, by rw [e, n467, hn, q466]⟩)
              · exact up_ne e
            rw [z2, f486 j q h1]
          · show (gI (vw t A s529) 31 _).toInt = _
            rw [u529, gI_eq, q528]
          · have := Int.lt_tmod_of_pos w513.toInt (show (0 : Int) < 100 by decide)
            rw [e517, lw_rem (by rw [i514]; decide), i514]; omega
          · have := Int.tmod_lt_of_pos w513.toInt (show (0 : Int) < 100 by decide)
            rw [e517, lw_rem (by rw [i514]; decide), i514]; omega
          · intro h5
            have g511 : w511 = gI (vw t A σ1) 5 hh.toNatClampNeg := by rw [e511]; unfold gI; rw [f486 5 _ (by decide)]
            have r5 := n_rng w511
            have q513 : w513.toInt = 7 * w511.toInt := by rw [e513, e512, lw_mul (by rw [i503, lw_i2l]; omega) (by rw [i503, lw_i2l]; omega), i503, lw_i2l]
            rw [e517, lw_rem (by rw [i514]; decide), i514]
            exact Int.tmod_nonneg _ (by rw [q513, g511]; omega)
          · intro q hq
            show vw t A s529 30 q = _
            have eq : q = w467.toNatClampNeg := by omega
            rw [u529, up_ne (by decide), u519, eq, up_eq, e518, e502, T, e499]
        · have ex := u_ret37 h (by decide +kernel : pins 176 457 = some (37, 458, 0, 0, []))
          subst ex
          exact ⟨rfl, S1, vw t A σ1, Q, Or.inl rfl⟩
    · obtain ⟨n514, l514, h⟩ := v_al h (by decide +kernel : pins 176 162 = some (5, 163, 0, 0, [])) (v := t) rfl
      obtain ⟨n515, l515, h⟩ := w_row (k := 21) S1.1 h (by decide +kernel : pins 176 163 = some (22, 166, 13, 21, [])) (by decide)
      obtain ⟨n516, w166, l516, ⟨e166, i166⟩, h⟩ := u_ic h (by decide +kernel : pins 176 166 = some (0, 168, 16, 0, [])) (by decide)
      obtain ⟨n517, l517, h⟩ := v_il h (by decide +kernel : pins 176 168 = some (3, 169, 1, 0, [])) (v := hh) rfl
      obtain ⟨n518, w169, l518, e169, h⟩ := u_mul h (by decide +kernel : pins 176 169 = some (10, 170, 2, 0, []))
      obtain ⟨n519, l519, h⟩ := v_al h (by decide +kernel : pins 176 170 = some (5, 171, 0, 0, [])) (v := t) rfl
      obtain ⟨n520, l520, h⟩ := w_row (k := 62) S1.1 h (by decide +kernel : pins 176 171 = some (22, 174, 13, 62, [])) (by decide)
      obtain ⟨n521, w174, l521, ⟨e174, i174⟩, h⟩ := u_ic h (by decide +kernel : pins 176 174 = some (0, 177, 240, 0, [])) (by decide)
      obtain ⟨n522, r177, s177, l522, h177, h⟩ := pinv_call h (by decide +kernel : pins 176 177 = some (36, 180, 140, 1, [4]))
      have h177 : prun n522 140 0 (lv_args 0 [.ref (A 21), .int w169, .ref (A 62), .int w174]) [] σ1 = some (r177, s177) := h177
      obtain ⟨es177, w177, er177, f177⟩ := pc_alike0 S1.1 h177 (by decide) (by decide)
      have er177 : r177 = some (.int w177) := er177
      have et177 : s177 = σ1 := es177
      rw [et177] at h
      subst er177
      have h : prun n522 176 180 [(4, .int c2), (3, .int w5), (0, .ref t), (1, .int hh), (2, .int n0)] [.int w177] σ1 = some x := h
      obtain ⟨n523, l523, ⟨c180, h⟩ | ⟨c180, h⟩⟩ := u_if1 h (by decide +kernel : pins 176 180 = some (16, 183, 1, ((187 : Nat) : Int), []))
      · obtain ⟨n524, w187, l524, ⟨e187, i187⟩, h⟩ := u_ic h (by decide +kernel : pins 176 187 = some (0, 188, 0, 0, [])) (by decide)
        obtain ⟨n525, l525, h⟩ := v_is h (by decide +kernel : pins 176 188 = some (6, 190, 4, 0, []))
        have h : prun n525 176 190 [(4, .int w187), (3, .int w5), (0, .ref t), (1, .int hh), (2, .int n0)] [] σ1 = some x := h
        obtain ⟨n526, w190, l526, ⟨e190, i190⟩, h⟩ := u_ic h (by decide +kernel : pins 176 190 = some (0, 191, 0, 0, [])) (by decide)
        obtain ⟨n527, l527, h⟩ := v_is h (by decide +kernel : pins 176 191 = some (6, 193, 5, 0, []))
        have h : prun n527 176 193 [(5, .int w190), (4, .int w187), (3, .int w5), (0, .ref t), (1, .int hh), (2, .int n0)] [] σ1 = some x := h
        have h := prun_lv h (lv' := [(5, .int w190), (4, .int w187), (3, .int w5), (0, .ref t), (1, .int hh), (2, .int n0)]) (lvLe.cons (lvLe.cons (lvLe.cons (lvLe.cons (lvLe.cons (lvLe.cons lvLe.nil rfl) rfl) rfl) rfl) rfl) rfl) (by decide : ([5, 4, 3, 0, 1, 2] : List Nat).Nodup) (by decide : ([5, 4, 3, 0, 1, 2] : List Nat).Nodup)
        obtain ⟨m2, a52, a42, h⟩ := pc_ask_t _ _ _ _ x S1.1 trivial h
        obtain ⟨n601, l601, h⟩ := v_il h (by decide +kernel : pins 176 232 = some (3, 234, 4, 0, [])) (v := a42) rfl
        obtain ⟨n602, l602, ⟨c234, h⟩ | ⟨c234, h⟩⟩ := u_if1 h (by decide +kernel : pins 176 234 = some (16, 237, 1, ((246 : Nat) : Int), []))
        · have ex := u_ret37 h (by decide +kernel : pins 176 246 = some (37, 247, 0, 0, []))
          subst ex
          exact ⟨rfl, S1, vw t A σ1, Q, Or.inl rfl⟩
        · obtain ⟨n604, l604, h⟩ := v_al h (by decide +kernel : pins 176 237 = some (5, 238, 0, 0, [])) (v := t) rfl
          obtain ⟨n605, l605, h⟩ := v_il h (by decide +kernel : pins 176 238 = some (3, 239, 1, 0, [])) (v := hh) rfl
          obtain ⟨n606, w239, l606, ⟨e239, i239⟩, h⟩ := u_ic h (by decide +kernel : pins 176 239 = some (0, 242, 120000, 0, [])) (by decide)
          obtain ⟨n607, w242, l607, ⟨e242, i242⟩, h⟩ := u_ic h (by decide +kernel : pins 176 242 = some (0, 243, 0, 0, [])) (by decide)
          obtain ⟨n608, r243, s243, l608, h243, h⟩ := pinv_call h (by decide +kernel : pins 176 243 = some (36, 246, 152, 0, [4]))
          have h243 : prun n608 152 0 (lv_args 0 [.ref t, .int hh, .int w239, .int w242]) [] σ1 = some (r243, s243) := h243
          obtain ⟨er243, S243, f243, N243⟩ := pc_tells S1.1 h243 HA1 HM1
          have er243 : r243 = none := er243
          subst er243
          try dsimp only at S243
          try dsimp only at f243
          try dsimp only at N243
          have h : prun n608 176 246 [(5, .int a52), (4, .int a42), (3, .int w5), (0, .ref t), (1, .int hh), (2, .int n0)] [] s243 = some x := h
          have ex := u_ret37 h (by decide +kernel : pins 176 246 = some (37, 247, 0, 0, []))
          subst ex
          obtain ⟨p, n1, _, n2⟩ := N243
          have := n2 i242 (by rw [e239]; decide)
          subst this
          exact ⟨rfl, (S1.tr S243), vw t A σ1, Q, Or.inr (Or.inl ⟨f243, n1⟩)⟩
      · obtain ⟨n528, w183, l528, ⟨e183, i183⟩, h⟩ := u_ic h (by decide +kernel : pins 176 183 = some (0, 184, 1, 0, [])) (by decide)
        obtain ⟨n529, l529, h⟩ := u_go h (by decide +kernel : pins 176 184 = some (20, 187, 0, ((188 : Nat) : Int), []))
        obtain ⟨n530, l530, h⟩ := v_is h (by decide +kernel : pins 176 188 = some (6, 190, 4, 0, []))
        have h : prun n530 176 190 [(4, .int w183), (3, .int w5), (0, .ref t), (1, .int hh), (2, .int n0)] [] σ1 = some x := h
        obtain ⟨n531, w190, l531, ⟨e190, i190⟩, h⟩ := u_ic h (by decide +kernel : pins 176 190 = some (0, 191, 0, 0, [])) (by decide)
        obtain ⟨n532, l532, h⟩ := v_is h (by decide +kernel : pins 176 191 = some (6, 193, 5, 0, []))
        have h : prun n532 176 193 [(5, .int w190), (4, .int w183), (3, .int w5), (0, .ref t), (1, .int hh), (2, .int n0)] [] σ1 = some x := h
        have h := prun_lv h (lv' := [(5, .int w190), (4, .int w183), (3, .int w5), (0, .ref t), (1, .int hh), (2, .int n0)]) (lvLe.cons (lvLe.cons (lvLe.cons (lvLe.cons (lvLe.cons (lvLe.cons lvLe.nil rfl) rfl) rfl) rfl) rfl) rfl) (by decide : ([5, 4, 3, 0, 1, 2] : List Nat).Nodup) (by decide : ([5, 4, 3, 0, 1, 2] : List Nat).Nodup)
        obtain ⟨m2, a52, a42, h⟩ := pc_ask_t _ _ _ _ x S1.1 trivial h
        obtain ⟨n601, l601, h⟩ := v_il h (by decide +kernel : pins 176 232 = some (3, 234, 4, 0, [])) (v := a42) rfl
        obtain ⟨n602, l602, ⟨c234, h⟩ | ⟨c234, h⟩⟩ := u_if1 h (by decide +kernel : pins 176 234 = some (16, 237, 1, ((246 : Nat) : Int), []))
        · have ex := u_ret37 h (by decide +kernel : pins 176 246 = some (37, 247, 0, 0, []))
          subst ex
          exact ⟨rfl, S1, vw t A σ1, Q, Or.inl rfl⟩
        · obtain ⟨n604, l604, h⟩ := v_al h (by decide +kernel : pins 176 237 = some (5, 238, 0, 0, [])) (v := t) rfl
          obtain ⟨n605, l605, h⟩ := v_il h (by decide +kernel : pins 176 238 = some (3, 239, 1, 0, [])) (v := hh) rfl
          obtain ⟨n606, w239, l606, ⟨e239, i239⟩, h⟩ := u_ic h (by decide +kernel : pins 176 239 = some (0, 242, 120000, 0, [])) (by decide)
          obtain ⟨n607, w242, l607, ⟨e242, i242⟩, h⟩ := u_ic h (by decide +kernel : pins 176 242 = some (0, 243, 0, 0, [])) (by decide)
          obtain ⟨n608, r243, s243, l608, h243, h⟩ := pinv_call h (by decide +kernel : pins 176 243 = some (36, 246, 152, 0, [4]))
          have h243 : prun n608 152 0 (lv_args 0 [.ref t, .int hh, .int w239, .int w242]) [] σ1 = some (r243, s243) := h243
          obtain ⟨er243, S243, f243, N243⟩ := pc_tells S1.1 h243 HA1 HM1
          have er243 : r243 = none := er243
          subst er243
          try dsimp only at S243
          try dsimp only at f243
          try dsimp only at N243
          have h : prun n608 176 246 [(5, .int a52), (4, .int a42), (3, .int w5), (0, .ref t), (1, .int hh), (2, .int n0)] [] s243 = some x := h
          have ex := u_ret37 h (by decide +kernel : pins 176 246 = some (37, 247, 0, 0, []))
          subst ex
          obtain ⟨p, n1, _, n2⟩ := N243
          have := n2 i242 (by rw [e239]; decide)
          subst this
          exact ⟨rfl, (S1.tr S243), vw t A σ1, Q, Or.inr (Or.inl ⟨f243, n1⟩)⟩
  · have ex := u_ret37 h (by decide +kernel : pins 176 156 = some (37, 157, 0, 0, []))
    subst ex
    exact ⟨rfl, S1, vw t A σ1, Q, Or.inl rfl⟩
