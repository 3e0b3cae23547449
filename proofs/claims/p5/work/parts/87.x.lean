def onOK (f g : Nat → Int32) (h i : Int32) : Prop := (0 ≤ h.toInt ∧ h.toInt ≤ 7) ∧ (1 ≤ i.toInt ∧ i.toInt ≤ 65535) ∧ (f h.toNatClampNeg).toInt = 0 ∧ ∀ k : Nat, k < 8 → ¬ (¬ (f k).toInt = 0 ∧ (g k).toInt = i.toInt)
def offOK (f : Nat → Int32) (h : Int32) : Prop := (0 ≤ h.toInt ∧ h.toInt ≤ 7) ∧ ¬ (f h.toNatClampNeg).toInt = 0
def loseOK (f : Nat → Int32) (h n : Int32) : Prop := offOK f h ∧ 0 ≤ n.toInt ∧ n.toInt ≤ 1000
def Same45 (V V' : Nat → Nat → Value) : Prop := ∀ q, V' 4 q = V 4 q ∧ V' 5 q = V 5 q
def OnSet (V V' : Nat → Nat → Value) (h : Nat) (i : Int32) : Prop := (∀ q, ¬ q = h → V' 4 q = V 4 q ∧ V' 5 q = V 5 q) ∧ gI V' 4 h = 1 ∧ gI V' 5 h = i
def OffSet (V V' : Nat → Nat → Value) (h : Nat) : Prop := (∀ q, ¬ q = h → V' 4 q = V 4 q ∧ V' 5 q = V 5 q) ∧ gI V' 4 h = 0
theorem pc_isHost2 {t n : Nat} {A : Nat → Nat} {hh : Int32} {σ : ps} {x : Option Value × ps} (W : Wld t A σ) (h : prun n 179 0 (lv_args 0 [.ref t, .int hh]) [] σ = some x) : x.2 = σ ∧ ∃ w : Int32, x.1 = some (.int w) ∧ ((w.toInt = 0 ∧ ¬ (0 ≤ hh.toInt ∧ hh.toInt ≤ 7)) ∨ (¬ w.toInt = 0 ∧ (0 ≤ hh.toInt ∧ hh.toInt ≤ 7))) := by
  have h : prun n 179 0 [(0, .ref t), (1, .int hh)] [] σ = some x := h
  obtain ⟨n1, l1, h⟩ := v_il h (by decide +kernel : pins 179 0 = some (3, 1, 1, 0, [])) (v := hh) rfl
  obtain ⟨n2, l2, ⟨c1, h⟩ | ⟨c1, h⟩⟩ := u_if2 h (by decide +kernel : pins 179 1 = some (16, 4, 2, ((14 : Nat) : Int), []))
  · obtain ⟨n3, w14, l3, ⟨e14, i14⟩, h⟩ := u_ic h (by decide +kernel : pins 179 14 = some (0, 15, 0, 0, [])) (by decide)
    have ex := u_ret38 h (by decide +kernel : pins 179 15 = some (38, 16, 0, 0, []))
    subst ex
    exact ⟨rfl, _, rfl, Or.inl ⟨i14, by omega⟩⟩
  · obtain ⟨n5, l5, h⟩ := v_il h (by decide +kernel : pins 179 4 = some (3, 5, 1, 0, [])) (v := hh) rfl
    obtain ⟨n6, w5, l6, ⟨e5, i5⟩, h⟩ := u_ic h (by decide +kernel : pins 179 5 = some (0, 7, 8, 0, [])) (by decide)
    obtain ⟨n7, l7, ⟨c7, h⟩ | ⟨c7, h⟩⟩ := u_ic3 h (by decide +kernel : pins 179 7 = some (17, 10, 3, ((14 : Nat) : Int), []))
    · obtain ⟨n8, w14, l8, ⟨e14, i14⟩, h⟩ := u_ic h (by decide +kernel : pins 179 14 = some (0, 15, 0, 0, [])) (by decide)
      have ex := u_ret38 h (by decide +kernel : pins 179 15 = some (38, 16, 0, 0, []))
      subst ex
      rw [i5] at c7
      exact ⟨rfl, _, rfl, Or.inl ⟨i14, by omega⟩⟩
    · obtain ⟨n10, w10, l10, ⟨e10, i10⟩, h⟩ := u_ic h (by decide +kernel : pins 179 10 = some (0, 11, 1, 0, [])) (by decide)
      obtain ⟨n11, l11, h⟩ := u_go h (by decide +kernel : pins 179 11 = some (20, 14, 0, ((15 : Nat) : Int), []))
      have ex := u_ret38 h (by decide +kernel : pins 179 15 = some (38, 16, 0, 0, []))
      subst ex
      rw [i5] at c7
      exact ⟨rfl, _, rfl, Or.inr ⟨by rw [i10]; decide, by omega⟩⟩
set_option maxHeartbeats 4000000 in
theorem pc_forgets2 {t n : Nat} {A : Nat → Nat} {hh : Int32} {σ : ps} {x : Option Value × ps} (W : Wld t A σ) (h : prun n 181 0 (lv_args 0 [.ref t, .int hh]) [] σ = some x) : x.1 = none ∧ SP t A σ x.2 ∧ (∀ q, ¬ q = hh.toNatClampNeg → vw t A x.2 4 q = vw t A σ 4 q ∧ vw t A x.2 5 q = vw t A σ 5 q) ∧ gI (vw t A x.2) 4 hh.toNatClampNeg = 0 := by
  have h : prun n 181 0 [(0, .ref t), (1, .int hh)] [] σ = some x := h
  obtain ⟨n1, l1, h⟩ := v_al h (by decide +kernel : pins 181 0 = some (5, 1, 0, 0, [])) (v := t) rfl
  obtain ⟨n2, l2, h⟩ := w_row (k := 4) W h (by decide +kernel : pins 181 1 = some (22, 4, 13, 4, [])) (by decide)
  obtain ⟨n3, l3, h⟩ := v_il h (by decide +kernel : pins 181 4 = some (3, 5, 1, 0, [])) (v := hh) rfl
  obtain ⟨n4, w5, l4, ⟨e5, i5⟩, h⟩ := u_ic h (by decide +kernel : pins 181 5 = some (0, 6, 0, 0, [])) (by decide)
  obtain ⟨n5, s6, l5, b6, S6, u6, h⟩ := w_bast W h (by decide +kernel : pins 181 6 = some (29, 7, 0, 0, [])) (by decide) (by decide)
  obtain ⟨n6, l6, h⟩ := v_al h (by decide +kernel : pins 181 7 = some (5, 8, 0, 0, [])) (v := t) rfl
  obtain ⟨n7, l7, h⟩ := w_row (k := 5) S6.1 h (by decide +kernel : pins 181 8 = some (22, 11, 13, 5, [])) (by decide)
  obtain ⟨n8, l8, h⟩ := v_il h (by decide +kernel : pins 181 11 = some (3, 12, 1, 0, [])) (v := hh) rfl
  obtain ⟨n9, w12, l9, ⟨e12, i12⟩, h⟩ := u_ic h (by decide +kernel : pins 181 12 = some (0, 13, 0, 0, [])) (by decide)
  obtain ⟨n10, s13, l10, b13, S13, u13, h⟩ := w_iast S6.1 h (by decide +kernel : pins 181 13 = some (28, 14, 0, 0, [])) (by decide)
  obtain ⟨n11, l11, h⟩ := v_al h (by decide +kernel : pins 181 14 = some (5, 15, 0, 0, [])) (v := t) rfl
  obtain ⟨n12, l12, h⟩ := w_row (k := 7) S13.1 h (by decide +kernel : pins 181 15 = some (22, 18, 13, 7, [])) (by decide)
  obtain ⟨n13, l13, h⟩ := v_il h (by decide +kernel : pins 181 18 = some (3, 19, 1, 0, [])) (v := hh) rfl
  obtain ⟨n14, w19, l14, ⟨e19, i19⟩, h⟩ := u_ic h (by decide +kernel : pins 181 19 = some (0, 20, 0, 0, [])) (by decide)
  obtain ⟨n15, s20, l15, b20, S20, u20, h⟩ := w_iast S13.1 h (by decide +kernel : pins 181 20 = some (28, 21, 0, 0, [])) (by decide)
  obtain ⟨n16, l16, h⟩ := v_al h (by decide +kernel : pins 181 21 = some (5, 22, 0, 0, [])) (v := t) rfl
  obtain ⟨n17, l17, h⟩ := w_row (k := 8) S20.1 h (by decide +kernel : pins 181 22 = some (22, 25, 13, 8, [])) (by decide)
  obtain ⟨n18, l18, h⟩ := v_il h (by decide +kernel : pins 181 25 = some (3, 26, 1, 0, [])) (v := hh) rfl
  obtain ⟨n19, w26, l19, ⟨e26, i26⟩, h⟩ := u_ic h (by decide +kernel : pins 181 26 = some (0, 27, 0, 0, [])) (by decide)
  obtain ⟨n20, s27, l20, b27, S27, u27, h⟩ := w_iast S20.1 h (by decide +kernel : pins 181 27 = some (28, 28, 0, 0, [])) (by decide)
  obtain ⟨n21, l21, h⟩ := v_al h (by decide +kernel : pins 181 28 = some (5, 29, 0, 0, [])) (v := t) rfl
  obtain ⟨n22, l22, h⟩ := w_row (k := 9) S27.1 h (by decide +kernel : pins 181 29 = some (22, 32, 13, 9, [])) (by decide)
  obtain ⟨n23, l23, h⟩ := v_il h (by decide +kernel : pins 181 32 = some (3, 33, 1, 0, [])) (v := hh) rfl
  obtain ⟨n24, w33, l24, ⟨e33, i33⟩, h⟩ := u_ic h (by decide +kernel : pins 181 33 = some (0, 34, 0, 0, [])) (by decide)
  obtain ⟨n25, s34, l25, b34, S34, u34, h⟩ := w_iast S27.1 h (by decide +kernel : pins 181 34 = some (28, 35, 0, 0, [])) (by decide)
  obtain ⟨n26, l26, h⟩ := v_al h (by decide +kernel : pins 181 35 = some (5, 36, 0, 0, [])) (v := t) rfl
  obtain ⟨n27, l27, h⟩ := w_row (k := 10) S34.1 h (by decide +kernel : pins 181 36 = some (22, 39, 13, 10, [])) (by decide)
  obtain ⟨n28, l28, h⟩ := v_il h (by decide +kernel : pins 181 39 = some (3, 40, 1, 0, [])) (v := hh) rfl
  obtain ⟨n29, w40, l29, ⟨e40, i40⟩, h⟩ := u_ic h (by decide +kernel : pins 181 40 = some (0, 41, 0, 0, [])) (by decide)
  obtain ⟨n30, s41, l30, b41, S41, u41, h⟩ := w_iast S34.1 h (by decide +kernel : pins 181 41 = some (28, 42, 0, 0, [])) (by decide)
  obtain ⟨n31, l31, h⟩ := v_al h (by decide +kernel : pins 181 42 = some (5, 43, 0, 0, [])) (v := t) rfl
  obtain ⟨n32, l32, h⟩ := w_row (k := 11) S41.1 h (by decide +kernel : pins 181 43 = some (22, 46, 13, 11, [])) (by decide)
  obtain ⟨n33, l33, h⟩ := v_il h (by decide +kernel : pins 181 46 = some (3, 47, 1, 0, [])) (v := hh) rfl
  obtain ⟨n34, w47, l34, ⟨e47, i47⟩, h⟩ := u_ic h (by decide +kernel : pins 181 47 = some (0, 48, 0, 0, [])) (by decide)
  obtain ⟨n35, s48, l35, b48, S48, u48, h⟩ := w_iast S41.1 h (by decide +kernel : pins 181 48 = some (28, 49, 0, 0, [])) (by decide)
  obtain ⟨n36, l36, h⟩ := v_al h (by decide +kernel : pins 181 49 = some (5, 50, 0, 0, [])) (v := t) rfl
  obtain ⟨n37, l37, h⟩ := w_row (k := 13) S48.1 h (by decide +kernel : pins 181 50 = some (22, 53, 13, 13, [])) (by decide)
  obtain ⟨n38, l38, h⟩ := v_il h (by decide +kernel : pins 181 53 = some (3, 54, 1, 0, [])) (v := hh) rfl
  obtain ⟨n39, w54, l39, ⟨e54, i54⟩, h⟩ := u_ic h (by decide +kernel : pins 181 54 = some (0, 55, 0, 0, [])) (by decide)
  obtain ⟨n40, s55, l40, b55, S55, u55, h⟩ := w_bast S48.1 h (by decide +kernel : pins 181 55 = some (29, 56, 0, 0, [])) (by decide) (by decide)
  obtain ⟨n41, l41, h⟩ := v_al h (by decide +kernel : pins 181 56 = some (5, 57, 0, 0, [])) (v := t) rfl
  obtain ⟨n42, l42, h⟩ := w_row (k := 14) S55.1 h (by decide +kernel : pins 181 57 = some (22, 60, 13, 14, [])) (by decide)
  obtain ⟨n43, l43, h⟩ := v_il h (by decide +kernel : pins 181 60 = some (3, 61, 1, 0, [])) (v := hh) rfl
  obtain ⟨n44, w61, l44, e61, h⟩ := u_lc h (by decide +kernel : pins 181 61 = some (1, 64, 9223372036854775807, 0, []))
  have i61 : w61.toInt = 9223372036854775807 := by rw [e61]; decide
  obtain ⟨n45, s64, l45, b64, S64, u64, h⟩ := w_last S55.1 h (by decide +kernel : pins 181 64 = some (30, 65, 0, 0, [])) (by decide)
  obtain ⟨n46, l46, h⟩ := v_al h (by decide +kernel : pins 181 65 = some (5, 66, 0, 0, [])) (v := t) rfl
  obtain ⟨n47, l47, h⟩ := w_row (k := 15) S64.1 h (by decide +kernel : pins 181 66 = some (22, 69, 13, 15, [])) (by decide)
  obtain ⟨n48, l48, h⟩ := v_il h (by decide +kernel : pins 181 69 = some (3, 70, 1, 0, [])) (v := hh) rfl
  obtain ⟨n49, w70, l49, e70, h⟩ := u_lc h (by decide +kernel : pins 181 70 = some (1, 73, 9223372036854775807, 0, []))
  have i70 : w70.toInt = 9223372036854775807 := by rw [e70]; decide
  obtain ⟨n50, s73, l50, b73, S73, u73, h⟩ := w_last S64.1 h (by decide +kernel : pins 181 73 = some (30, 74, 0, 0, [])) (by decide)
  obtain ⟨n51, l51, h⟩ := v_al h (by decide +kernel : pins 181 74 = some (5, 75, 0, 0, [])) (v := t) rfl
  obtain ⟨n52, l52, h⟩ := w_row (k := 16) S73.1 h (by decide +kernel : pins 181 75 = some (22, 78, 13, 16, [])) (by decide)
  obtain ⟨n53, l53, h⟩ := v_il h (by decide +kernel : pins 181 78 = some (3, 79, 1, 0, [])) (v := hh) rfl
  obtain ⟨n54, w79, l54, ⟨e79, i79⟩, h⟩ := u_ic h (by decide +kernel : pins 181 79 = some (0, 80, 0, 0, [])) (by decide)
  obtain ⟨n55, s80, l55, b80, S80, u80, h⟩ := w_iast S73.1 h (by decide +kernel : pins 181 80 = some (28, 81, 0, 0, [])) (by decide)
  obtain ⟨n56, l56, h⟩ := v_al h (by decide +kernel : pins 181 81 = some (5, 82, 0, 0, [])) (v := t) rfl
  obtain ⟨n57, l57, h⟩ := w_row (k := 18) S80.1 h (by decide +kernel : pins 181 82 = some (22, 85, 13, 18, [])) (by decide)
  obtain ⟨n58, l58, h⟩ := v_il h (by decide +kernel : pins 181 85 = some (3, 86, 1, 0, [])) (v := hh) rfl
  obtain ⟨n59, w86, l59, e86, h⟩ := u_lc h (by decide +kernel : pins 181 86 = some (1, 89, 9223372036854775807, 0, []))
  have i86 : w86.toInt = 9223372036854775807 := by rw [e86]; decide
  obtain ⟨n60, s89, l60, b89, S89, u89, h⟩ := w_last S80.1 h (by decide +kernel : pins 181 89 = some (30, 90, 0, 0, [])) (by decide)
  obtain ⟨n61, l61, h⟩ := v_al h (by decide +kernel : pins 181 90 = some (5, 91, 0, 0, [])) (v := t) rfl
  obtain ⟨n62, l62, h⟩ := w_row (k := 19) S89.1 h (by decide +kernel : pins 181 91 = some (22, 94, 13, 19, [])) (by decide)
  obtain ⟨n63, l63, h⟩ := v_il h (by decide +kernel : pins 181 94 = some (3, 95, 1, 0, [])) (v := hh) rfl
  obtain ⟨n64, w95, l64, ⟨e95, i95⟩, h⟩ := u_ic h (by decide +kernel : pins 181 95 = some (0, 96, 1, 0, [])) (by decide)
  obtain ⟨n65, s96, l65, b96, S96, u96, h⟩ := w_iast S89.1 h (by decide +kernel : pins 181 96 = some (28, 97, 0, 0, [])) (by decide)
  obtain ⟨n66, l66, h⟩ := v_al h (by decide +kernel : pins 181 97 = some (5, 98, 0, 0, [])) (v := t) rfl
  obtain ⟨n67, l67, h⟩ := w_row (k := 24) S96.1 h (by decide +kernel : pins 181 98 = some (22, 101, 13, 24, [])) (by decide)
  obtain ⟨n68, l68, h⟩ := v_il h (by decide +kernel : pins 181 101 = some (3, 102, 1, 0, [])) (v := hh) rfl
  obtain ⟨n69, w102, l69, ⟨e102, i102⟩, h⟩ := u_ic h (by decide +kernel : pins 181 102 = some (0, 103, 0, 0, [])) (by decide)
  obtain ⟨n70, s103, l70, b103, S103, u103, h⟩ := w_iast S96.1 h (by decide +kernel : pins 181 103 = some (28, 104, 0, 0, [])) (by decide)
  obtain ⟨n71, l71, h⟩ := v_al h (by decide +kernel : pins 181 104 = some (5, 105, 0, 0, [])) (v := t) rfl
  obtain ⟨n72, l72, h⟩ := w_row (k := 31) S103.1 h (by decide +kernel : pins 181 105 = some (22, 108, 13, 31, [])) (by decide)
  obtain ⟨n73, l73, h⟩ := v_il h (by decide +kernel : pins 181 108 = some (3, 109, 1, 0, [])) (v := hh) rfl
  obtain ⟨n74, w109, l74, ⟨e109, i109⟩, h⟩ := u_ic h (by decide +kernel : pins 181 109 = some (0, 110, 0, 0, [])) (by decide)
  obtain ⟨n75, s110, l75, b110, S110, u110, h⟩ := w_iast S103.1 h (by decide +kernel : pins 181 110 = some (28, 111, 0, 0, [])) (by decide)
  obtain ⟨n76, l76, h⟩ := v_al h (by decide +kernel : pins 181 111 = some (5, 112, 0, 0, [])) (v := t) rfl
  obtain ⟨n77, l77, h⟩ := w_row (k := 32) S110.1 h (by decide +kernel : pins 181 112 = some (22, 115, 13, 32, [])) (by decide)
  obtain ⟨n78, l78, h⟩ := v_il h (by decide +kernel : pins 181 115 = some (3, 116, 1, 0, [])) (v := hh) rfl
  obtain ⟨n79, w116, l79, ⟨e116, i116⟩, h⟩ := u_ic h (by decide +kernel : pins 181 116 = some (0, 117, 0, 0, [])) (by decide)
  obtain ⟨n80, s117, l80, b117, S117, u117, h⟩ := w_iast S110.1 h (by decide +kernel : pins 181 117 = some (28, 118, 0, 0, [])) (by decide)
  obtain ⟨n81, w118, l81, ⟨e118, i118⟩, h⟩ := u_ic h (by decide +kernel : pins 181 118 = some (0, 119, 4, 0, [])) (by decide)
  obtain ⟨n82, l82, h⟩ := v_il h (by decide +kernel : pins 181 119 = some (3, 120, 1, 0, [])) (v := hh) rfl
  obtain ⟨n83, w120, l83, e120, h⟩ := u_mul h (by decide +kernel : pins 181 120 = some (10, 121, 2, 0, []))
  obtain ⟨n84, l84, h⟩ := v_is h (by decide +kernel : pins 181 121 = some (6, 122, 2, 0, []))
  have h : prun n84 181 122 [(2, .int w120), (0, .ref t), (1, .int hh)] [] s117 = some x := h
  have h := prun_lv h (lv' := [(2, .int w120), (0, .ref t), (1, .int hh)]) (lvLe.cons (lvLe.cons (lvLe.cons lvLe.nil rfl) rfl) rfl) (by decide : ([2, 0, 1] : List Nat).Nodup) (by decide : ([2, 0, 1] : List Nat).Nodup)
  obtain ⟨y1, y2, y3, y4⟩ := pc_fg_l _ _ _ x S117.1 trivial h
  refine ⟨y1, (((((((((((((((S6.tr S13).tr S20).tr S27).tr S34).tr S41).tr S48).tr S55).tr S64).tr S73).tr S80).tr S89).tr S96).tr S103).tr S110).tr S117).tr y2, fun q hq => ⟨?_, ?_⟩, ?_⟩
  · rw [y3 4 q (by decide), u117, up_ne (by decide), u110, up_ne (by decide), u103, up_ne (by decide), u96, up_ne (by decide), u89, up_ne (by decide), u80, up_ne (by decide), u73, up_ne (by decide), u64, up_ne (by decide), u55, up_ne (by decide), u48, up_ne (by decide), u41, up_ne (by decide), u34, up_ne (by decide), u27, up_ne (by decide), u20, up_ne (by decide), u13, up_ne (by decide), u6, up_ni (by decide) hq]
  · rw [y3 5 q (by decide), u117, up_ne (by decide), u110, up_ne (by decide), u103, up_ne (by decide), u96, up_ne (by decide), u89, up_ne (by decide), u80, up_ne (by decide), u73, up_ne (by decide), u64, up_ne (by decide), u55, up_ne (by decide), u48, up_ne (by decide), u41, up_ne (by decide), u34, up_ne (by decide), u27, up_ne (by decide), u20, up_ne (by decide), u13, up_ni (by decide) hq, u6, up_ne (by decide)]
  · rw [gI_of (y3 4 _ (by decide)), u117, gI_ne (by decide), u110, gI_ne (by decide), u103, gI_ne (by decide), u96, gI_ne (by decide), u89, gI_ne (by decide), u80, gI_ne (by decide), u73, gI_ne (by decide), u64, gI_ne (by decide), u55, gI_ne (by decide), u48, gI_ne (by decide), u41, gI_ne (by decide), u34, gI_ne (by decide), u27, gI_ne (by decide), u20, gI_ne (by decide), u13, gI_ne (by decide), u6, gI_eq, e5]
    decide
theorem pc_on_l2 {t : Nat} {A : Nat → Nat} {hh nid : Int32} : ∀ (n : Nat) (c : Int32) (σ : ps) (x : Option Value × ps), Wld t A σ → ((0 ≤ c.toInt ∧ c.toInt ≤ 8) ∧ ∀ k : Nat, (k : Int) < c.toInt → ¬ (¬ (gI (vw t A σ) 4 k).toInt = 0 ∧ (gI (vw t A σ) 5 k).toInt = nid.toInt)) → prun n 180 38 [(3, .int c), (0, .ref t), (1, .int hh), (2, .int nid)] [] σ = some x → ∃ w : Int32, x.1 = some (.int w) ∧ (((∀ k : Nat, k < 8 → ¬ (¬ (gI (vw t A σ) 4 k).toInt = 0 ∧ (gI (vw t A σ) 5 k).toInt = nid.toInt)) ∧ w.toInt = 1 ∧ OnSet (vw t A σ) (vw t A x.2) hh.toNatClampNeg nid) ∨ ((¬ ∀ k : Nat, k < 8 → ¬ (¬ (gI (vw t A σ) 4 k).toInt = 0 ∧ (gI (vw t A σ) 5 k).toInt = nid.toInt)) ∧ w.toInt = 0 ∧ Same45 (vw t A σ) (vw t A x.2))) := by
  intro n
  induction n using Nat.strongRecOn with
  | ind n ih =>
    intro c σ x W I h
    obtain ⟨n1, l1, h⟩ := v_il h (by decide +kernel : pins 180 38 = some (3, 39, 3, 0, [])) (v := c) rfl
    obtain ⟨n2, w39, l2, ⟨e39, i39⟩, h⟩ := u_ic h (by decide +kernel : pins 180 39 = some (0, 41, 8, 0, [])) (by decide)
    obtain ⟨n3, l3, ⟨c41, h⟩ | ⟨c41, h⟩⟩ := u_ic3 h (by decide +kernel : pins 180 41 = some (17, 44, 3, ((71 : Nat) : Int), []))
    · obtain ⟨n4, l4, h⟩ := v_al h (by decide +kernel : pins 180 71 = some (5, 72, 0, 0, [])) (v := t) rfl
      obtain ⟨n5, l5, h⟩ := v_il h (by decide +kernel : pins 180 72 = some (3, 73, 1, 0, [])) (v := hh) rfl
      obtain ⟨n6, r73, s73, l6, h73, h⟩ := pinv_call h (by decide +kernel : pins 180 73 = some (36, 76, 181, 0, [2]))
      have h73 : prun n6 181 0 (lv_args 0 [.ref t, .int hh]) [] σ = some (r73, s73) := h73
      obtain ⟨er73, S73, g73, z73⟩ := pc_forgets2 W h73
      have er73 : r73 = none := er73
      subst er73
      try dsimp only at S73
      try dsimp only at g73
      try dsimp only at z73
      have h : prun n6 180 76 [(3, .int c), (0, .ref t), (1, .int hh), (2, .int nid)] [] s73 = some x := h
      obtain ⟨n7, l7, h⟩ := v_al h (by decide +kernel : pins 180 76 = some (5, 77, 0, 0, [])) (v := t) rfl
      obtain ⟨n8, l8, h⟩ := w_row (k := 4) S73.1 h (by decide +kernel : pins 180 77 = some (22, 80, 13, 4, [])) (by decide)
      obtain ⟨n9, l9, h⟩ := v_il h (by decide +kernel : pins 180 80 = some (3, 81, 1, 0, [])) (v := hh) rfl
      obtain ⟨n10, w81, l10, ⟨e81, i81⟩, h⟩ := u_ic h (by decide +kernel : pins 180 81 = some (0, 82, 1, 0, [])) (by decide)
      obtain ⟨n11, s82, l11, b82, S82, u82, h⟩ := w_bast S73.1 h (by decide +kernel : pins 180 82 = some (29, 83, 0, 0, [])) (by decide) (by decide)
      obtain ⟨n12, l12, h⟩ := v_al h (by decide +kernel : pins 180 83 = some (5, 84, 0, 0, [])) (v := t) rfl
      obtain ⟨n13, l13, h⟩ := w_row (k := 5) S82.1 h (by decide +kernel : pins 180 84 = some (22, 87, 13, 5, [])) (by decide)
      obtain ⟨n14, l14, h⟩ := v_il h (by decide +kernel : pins 180 87 = some (3, 88, 1, 0, [])) (v := hh) rfl
      obtain ⟨n15, l15, h⟩ := v_il h (by decide +kernel : pins 180 88 = some (3, 89, 2, 0, [])) (v := nid) rfl
      obtain ⟨n16, s89, l16, b89, S89, u89, h⟩ := w_iast S82.1 h (by decide +kernel : pins 180 89 = some (28, 90, 0, 0, [])) (by decide)
      obtain ⟨n17, l17, h⟩ := v_al h (by decide +kernel : pins 180 90 = some (5, 91, 0, 0, [])) (v := t) rfl
      obtain ⟨n18, l18, h⟩ := v_il h (by decide +kernel : pins 180 91 = some (3, 92, 1, 0, [])) (v := hh) rfl
      obtain ⟨n19, r92, s92, l19, h92, h⟩ := pinv_call h (by decide +kernel : pins 180 92 = some (36, 95, 154, 0, [2]))
      have h92 : prun n19 154 0 (lv_args 0 [.ref t, .int hh]) [] s89 = some (r92, s92) := h92
      obtain ⟨er92, S92, f92⟩ := pc_probes S89.1 h92
      have er92 : r92 = none := er92
      subst er92
      try dsimp only at S92
      try dsimp only at f92
      have h : prun n19 180 95 [(3, .int c), (0, .ref t), (1, .int hh), (2, .int nid)] [] s92 = some x := h
      obtain ⟨n20, w95, l20, ⟨e95, i95⟩, h⟩ := u_ic h (by decide +kernel : pins 180 95 = some (0, 96, 1, 0, [])) (by decide)
      have ex := u_ret38 h (by decide +kernel : pins 180 96 = some (38, 97, 0, 0, []))
      subst ex
      refine ⟨_, rfl, Or.inl ⟨fun k hk => I.2 k (by omega), i95, fun q hq => ⟨?_, ?_⟩, ?_, ?_⟩⟩
      · show vw t A s92 4 q = _
        rw [f92 4 q (by omega), u89, up_ne (by decide), u82, up_ni (by decide) hq]; exact (g73 q hq).1
      · show vw t A s92 5 q = _
        rw [f92 5 q (by omega), u89, up_ni (by decide) hq, u82, up_ne (by decide)]; exact (g73 q hq).2
      · show gI (vw t A s92) 4 _ = _
        rw [gI_of (f92 4 _ (by omega)), u89, gI_ne (by decide), u82, gI_eq, e81]; decide
      · show gI (vw t A s92) 5 _ = _
        rw [gI_of (f92 5 _ (by omega)), u89, gI_eq]
    · obtain ⟨n22, l22, h⟩ := v_al h (by decide +kernel : pins 180 44 = some (5, 45, 0, 0, [])) (v := t) rfl
      obtain ⟨n23, l23, h⟩ := w_row (k := 4) W h (by decide +kernel : pins 180 45 = some (22, 48, 13, 4, [])) (by decide)
      obtain ⟨n24, l24, h⟩ := v_il h (by decide +kernel : pins 180 48 = some (3, 49, 3, 0, [])) (v := c) rfl
      obtain ⟨n25, w49, l25, b49, e49, h⟩ := w_bald W h (by decide +kernel : pins 180 49 = some (25, 50, 0, 0, [])) (by decide)
      obtain ⟨n26, l26, ⟨c50, h⟩ | ⟨c50, h⟩⟩ := u_if0 h (by decide +kernel : pins 180 50 = some (16, 53, 0, ((65 : Nat) : Int), []))
      · obtain ⟨n27, w65, l27, e65, h⟩ := u_inc h (by decide +kernel : pins 180 65 = some (9, 68, 3, 1, [])) (v := c) rfl
        have h : prun n27 180 68 [(3, .int w65), (0, .ref t), (1, .int hh), (2, .int nid)] [] σ = some x := h
        obtain ⟨n28, l28, h⟩ := u_go h (by decide +kernel : pins 180 68 = some (20, 71, 0, ((38 : Nat) : Int), []))
        have h := prun_lv h (lv' := [(3, .int w65), (0, .ref t), (1, .int hh), (2, .int nid)]) (lvLe.cons (lvLe.cons (lvLe.cons (lvLe.cons lvLe.nil rfl) rfl) rfl) rfl) (by decide : ([3, 0, 1, 2] : List Nat).Nodup) (by decide : ([3, 0, 1, 2] : List Nat).Nodup)
        have cn : (c.toNatClampNeg : Int) = c.toInt := n_clamp I.1.1
        have q65 : w65.toInt = c.toInt + 1 := addc e65 (by decide : (Int32.ofInt 1).toInt = 1) (by omega) (by omega) (by decide) (by decide)
        refine ih n28 (by omega) _ _ x W ⟨⟨by omega, by omega⟩, fun k hk a => ?_⟩ h
        by_cases e : k = c.toNatClampNeg
        · rw [e] at a
          exact a.1 (by rw [← e49]; exact c50)
        · exact I.2 k (by omega) a
      · obtain ⟨n29, l29, h⟩ := v_al h (by decide +kernel : pins 180 53 = some (5, 54, 0, 0, [])) (v := t) rfl
        obtain ⟨n30, l30, h⟩ := w_row (k := 5) W h (by decide +kernel : pins 180 54 = some (22, 57, 13, 5, [])) (by decide)
        obtain ⟨n31, l31, h⟩ := v_il h (by decide +kernel : pins 180 57 = some (3, 58, 3, 0, [])) (v := c) rfl
        obtain ⟨n32, w58, l32, b58, e58, h⟩ := w_iald W h (by decide +kernel : pins 180 58 = some (24, 59, 0, 0, [])) (by decide)
        obtain ⟨n33, l33, h⟩ := v_il h (by decide +kernel : pins 180 59 = some (3, 60, 2, 0, [])) (v := nid) rfl
        obtain ⟨n34, l34, ⟨c60, h⟩ | ⟨c60, h⟩⟩ := u_ic1 h (by decide +kernel : pins 180 60 = some (17, 63, 1, ((65 : Nat) : Int), []))
        · obtain ⟨n35, w65, l35, e65, h⟩ := u_inc h (by decide +kernel : pins 180 65 = some (9, 68, 3, 1, [])) (v := c) rfl
          have h : prun n35 180 68 [(3, .int w65), (0, .ref t), (1, .int hh), (2, .int nid)] [] σ = some x := h
          obtain ⟨n36, l36, h⟩ := u_go h (by decide +kernel : pins 180 68 = some (20, 71, 0, ((38 : Nat) : Int), []))
          have h := prun_lv h (lv' := [(3, .int w65), (0, .ref t), (1, .int hh), (2, .int nid)]) (lvLe.cons (lvLe.cons (lvLe.cons (lvLe.cons lvLe.nil rfl) rfl) rfl) rfl) (by decide : ([3, 0, 1, 2] : List Nat).Nodup) (by decide : ([3, 0, 1, 2] : List Nat).Nodup)
          have cn : (c.toNatClampNeg : Int) = c.toInt := n_clamp I.1.1
          have q65 : w65.toInt = c.toInt + 1 := addc e65 (by decide : (Int32.ofInt 1).toInt = 1) (by omega) (by omega) (by decide) (by decide)
          refine ih n36 (by omega) _ _ x W ⟨⟨by omega, by omega⟩, fun k hk a => ?_⟩ h
          by_cases e : k = c.toNatClampNeg
          · rw [e] at a
            exact c60 (by rw [e58]; exact a.2)
          · exact I.2 k (by omega) a
        · obtain ⟨n37, w63, l37, ⟨e63, i63⟩, h⟩ := u_ic h (by decide +kernel : pins 180 63 = some (0, 64, 0, 0, [])) (by decide)
          have ex := u_ret38 h (by decide +kernel : pins 180 64 = some (38, 65, 0, 0, []))
          subst ex
          have cn : (c.toNatClampNeg : Int) = c.toInt := n_clamp I.1.1
          refine ⟨_, rfl, Or.inr ⟨fun a => a c.toNatClampNeg (by omega) ⟨?_, ?_⟩, i63, fun q => ⟨rfl, rfl⟩⟩⟩
          · rw [← e49]; exact c50
          · rw [← e58]; exact c60
theorem pc_on2 {t n : Nat} {A : Nat → Nat} {hh nid : Int32} {σ : ps} {x : Option Value × ps} (W : Wld t A σ) (h : prun n 180 0 (lv_args 0 [.ref t, .int hh, .int nid]) [] σ = some x) : ∃ w : Int32, x.1 = some (.int w) ∧ ((onOK (gI (vw t A σ) 4) (gI (vw t A σ) 5) hh nid ∧ w.toInt = 1 ∧ OnSet (vw t A σ) (vw t A x.2) hh.toNatClampNeg nid) ∨ ((¬ onOK (gI (vw t A σ) 4) (gI (vw t A σ) 5) hh nid) ∧ w.toInt = 0 ∧ Same45 (vw t A σ) (vw t A x.2))) := by
  have h : prun n 180 0 [(0, .ref t), (1, .int hh), (2, .int nid)] [] σ = some x := h
  obtain ⟨n1, l1, h⟩ := v_al h (by decide +kernel : pins 180 0 = some (5, 1, 0, 0, [])) (v := t) rfl
  obtain ⟨n2, w1, l2, ⟨e1, i1⟩, h⟩ := u_ic h (by decide +kernel : pins 180 1 = some (0, 2, 0, 0, [])) (by decide)
  obtain ⟨n3, s2, l3, S2, u2, h⟩ := w_put (k := 3) W h (by decide +kernel : pins 180 2 = some (23, 5, 13, 3, [])) (by decide)
  obtain ⟨n4, l4, h⟩ := v_al h (by decide +kernel : pins 180 5 = some (5, 6, 0, 0, [])) (v := t) rfl
  obtain ⟨n5, l5, h⟩ := v_il h (by decide +kernel : pins 180 6 = some (3, 7, 1, 0, [])) (v := hh) rfl
  obtain ⟨n6, r7, s7, l6, h7, h⟩ := pinv_call h (by decide +kernel : pins 180 7 = some (36, 10, 179, 0, [2]))
  have h7 : prun n6 179 0 (lv_args 0 [.ref t, .int hh]) [] s2 = some (r7, s7) := h7
  obtain ⟨es7, w7, er7, f7⟩ := pc_isHost2 S2.1 h7
  have er7 : r7 = some (.int w7) := er7
  have et7 : s7 = s2 := es7
  rw [et7] at h
  subst er7
  have h : prun n6 180 10 [(0, .ref t), (1, .int hh), (2, .int nid)] [.int w7] s2 = some x := h
  obtain ⟨n7, l7, ⟨c10, h⟩ | ⟨c10, h⟩⟩ := u_if0 h (by decide +kernel : pins 180 10 = some (16, 13, 0, ((34 : Nat) : Int), []))
  · obtain ⟨n8, w34, l8, ⟨e34, i34⟩, h⟩ := u_ic h (by decide +kernel : pins 180 34 = some (0, 35, 0, 0, [])) (by decide)
    have ex := u_ret38 h (by decide +kernel : pins 180 35 = some (38, 36, 0, 0, []))
    subst ex
    refine ⟨_, rfl, Or.inr ⟨fun a => ?_, i34, fun q => ⟨by rw [u2, up_ne (by decide)], by rw [u2, up_ne (by decide)]⟩⟩⟩
    rcases f7 with f | f
    · exact f.2 a.1
    · exact f.1 c10
  · obtain ⟨n10, l10, h⟩ := v_al h (by decide +kernel : pins 180 13 = some (5, 14, 0, 0, [])) (v := t) rfl
    obtain ⟨n11, l11, h⟩ := w_row (k := 4) S2.1 h (by decide +kernel : pins 180 14 = some (22, 17, 13, 4, [])) (by decide)
    obtain ⟨n12, l12, h⟩ := v_il h (by decide +kernel : pins 180 17 = some (3, 18, 1, 0, [])) (v := hh) rfl
    obtain ⟨n13, w18, l13, b18, e18, h⟩ := w_bald S2.1 h (by decide +kernel : pins 180 18 = some (25, 19, 0, 0, [])) (by decide)
    obtain ⟨n14, l14, ⟨c19, h⟩ | ⟨c19, h⟩⟩ := u_if1 h (by decide +kernel : pins 180 19 = some (16, 22, 1, ((34 : Nat) : Int), []))
    · obtain ⟨n15, w34, l15, ⟨e34, i34⟩, h⟩ := u_ic h (by decide +kernel : pins 180 34 = some (0, 35, 0, 0, [])) (by decide)
      have ex := u_ret38 h (by decide +kernel : pins 180 35 = some (38, 36, 0, 0, []))
      subst ex
      refine ⟨_, rfl, Or.inr ⟨fun a => ?_, i34, fun q => ⟨by rw [u2, up_ne (by decide)], by rw [u2, up_ne (by decide)]⟩⟩⟩
      exact c19 (by rw [e18, u2, gI_ne (by decide)]; exact a.2.2.1)
    · obtain ⟨n17, l17, h⟩ := v_il h (by decide +kernel : pins 180 22 = some (3, 23, 2, 0, [])) (v := nid) rfl
      obtain ⟨n18, w23, l18, ⟨e23, i23⟩, h⟩ := u_ic h (by decide +kernel : pins 180 23 = some (0, 24, 1, 0, [])) (by decide)
      obtain ⟨n19, l19, ⟨c24, h⟩ | ⟨c24, h⟩⟩ := u_ic2 h (by decide +kernel : pins 180 24 = some (17, 27, 2, ((34 : Nat) : Int), []))
      · obtain ⟨n20, w34, l20, ⟨e34, i34⟩, h⟩ := u_ic h (by decide +kernel : pins 180 34 = some (0, 35, 0, 0, [])) (by decide)
        have ex := u_ret38 h (by decide +kernel : pins 180 35 = some (38, 36, 0, 0, []))
        subst ex
        refine ⟨_, rfl, Or.inr ⟨fun a => ?_, i34, fun q => ⟨by rw [u2, up_ne (by decide)], by rw [u2, up_ne (by decide)]⟩⟩⟩
        have := a.2.1
        omega
      · obtain ⟨n22, l22, h⟩ := v_il h (by decide +kernel : pins 180 27 = some (3, 28, 2, 0, [])) (v := nid) rfl
        obtain ⟨n23, w28, l23, ⟨e28, i28⟩, h⟩ := u_ic h (by decide +kernel : pins 180 28 = some (0, 31, 65535, 0, [])) (by decide)
        obtain ⟨n24, l24, ⟨c31, h⟩ | ⟨c31, h⟩⟩ := u_ic5 h (by decide +kernel : pins 180 31 = some (17, 34, 5, ((36 : Nat) : Int), []))
        · obtain ⟨n25, w36, l25, ⟨e36, i36⟩, h⟩ := u_ic h (by decide +kernel : pins 180 36 = some (0, 37, 0, 0, [])) (by decide)
          obtain ⟨n26, l26, h⟩ := v_is h (by decide +kernel : pins 180 37 = some (6, 38, 3, 0, []))
          have h : prun n26 180 38 [(3, .int w36), (0, .ref t), (1, .int hh), (2, .int nid)] [] s2 = some x := h
          have h := prun_lv h (lv' := [(3, .int w36), (0, .ref t), (1, .int hh), (2, .int nid)]) (lvLe.cons (lvLe.cons (lvLe.cons (lvLe.cons lvLe.nil rfl) rfl) rfl) rfl) (by decide : ([3, 0, 1, 2] : List Nat).Nodup) (by decide : ([3, 0, 1, 2] : List Nat).Nodup)
          obtain ⟨w, y1, y⟩ := pc_on_l2 _ _ _ x S2.1 ⟨⟨by omega, by omega⟩, fun k hk => by omega⟩ h
          have g : ∀ j k, ¬ j = 3 → vw t A s2 j k = vw t A σ j k := fun j k hj => by rw [u2, up_ne hj]
          have ha : 0 ≤ hh.toInt ∧ hh.toInt ≤ 7 := by
            rcases f7 with f | f
            · exact absurd f.1 c10
            · exact f.2
          refine ⟨w, y1, ?_⟩
          rcases y with ⟨a1, a2, a3, a4⟩ | ⟨a1, a2, a3⟩
          · refine Or.inl ⟨⟨ha, ⟨by omega, by omega⟩, ?_, fun k hk => ?_⟩, a2, fun q hq => ⟨(a3 q hq).1.trans (g 4 q (by decide)), (a3 q hq).2.trans (g 5 q (by decide))⟩, a4⟩
            · rw [← gI_of (g 4 _ (by decide)), ← e18]; exact c19
            · rw [← gI_of (g 4 _ (by decide)), ← gI_of (g 5 _ (by decide))]; exact a1 k hk
          · refine Or.inr ⟨fun a => a1 fun k hk => ?_, a2, fun q => ⟨(a3 q).1.trans (g 4 q (by decide)), (a3 q).2.trans (g 5 q (by decide))⟩⟩
            rw [gI_of (g 4 _ (by decide)), gI_of (g 5 _ (by decide))]; exact a.2.2.2 k hk
        · obtain ⟨n27, w34, l27, ⟨e34, i34⟩, h⟩ := u_ic h (by decide +kernel : pins 180 34 = some (0, 35, 0, 0, [])) (by decide)
          have ex := u_ret38 h (by decide +kernel : pins 180 35 = some (38, 36, 0, 0, []))
          subst ex
          refine ⟨_, rfl, Or.inr ⟨fun a => ?_, i34, fun q => ⟨by rw [u2, up_ne (by decide)], by rw [u2, up_ne (by decide)]⟩⟩⟩
          have := a.2.1
          omega
theorem pc_off2 {t n : Nat} {A : Nat → Nat} {hh pol : Int32} {σ : ps} {x : Option Value × ps} (W : Wld t A σ) (h : prun n 182 0 (lv_args 0 [.ref t, .int hh, .int pol]) [] σ = some x) (HA : 0 ≤ (gI (vw t A σ) 46 0).toInt ∧ (gI (vw t A σ) 46 0).toInt < 800) (HM : 0 ≤ (gI (vw t A σ) 47 0).toInt ∧ (gI (vw t A σ) 47 0).toInt ≤ 1000) (HM8 : (gI (vw t A σ) 47 0).toInt < 800) : ∃ w : Int32, x.1 = some (.int w) ∧ ((offOK (gI (vw t A σ) 4) hh ∧ w.toInt = 1 ∧ OffSet (vw t A σ) (vw t A x.2) hh.toNatClampNeg) ∨ ((¬ offOK (gI (vw t A σ) 4) hh) ∧ w.toInt = 0 ∧ Same45 (vw t A σ) (vw t A x.2))) := by
  have h : prun n 182 0 [(0, .ref t), (1, .int hh), (2, .int pol)] [] σ = some x := h
  obtain ⟨n1, l1, h⟩ := v_al h (by decide +kernel : pins 182 0 = some (5, 1, 0, 0, [])) (v := t) rfl
  obtain ⟨n2, w1, l2, ⟨e1, i1⟩, h⟩ := u_ic h (by decide +kernel : pins 182 1 = some (0, 2, 0, 0, [])) (by decide)
  obtain ⟨n3, s2, l3, S2, u2, h⟩ := w_put (k := 3) W h (by decide +kernel : pins 182 2 = some (23, 5, 13, 3, [])) (by decide)
  obtain ⟨n4, l4, h⟩ := v_al h (by decide +kernel : pins 182 5 = some (5, 6, 0, 0, [])) (v := t) rfl
  obtain ⟨n5, l5, h⟩ := v_il h (by decide +kernel : pins 182 6 = some (3, 7, 1, 0, [])) (v := hh) rfl
  obtain ⟨n6, r7, s7, l6, h7, h⟩ := pinv_call h (by decide +kernel : pins 182 7 = some (36, 10, 179, 0, [2]))
  have h7 : prun n6 179 0 (lv_args 0 [.ref t, .int hh]) [] s2 = some (r7, s7) := h7
  obtain ⟨es7, w7, er7, f7⟩ := pc_isHost2 S2.1 h7
  have er7 : r7 = some (.int w7) := er7
  have et7 : s7 = s2 := es7
  rw [et7] at h
  subst er7
  have h : prun n6 182 10 [(0, .ref t), (1, .int hh), (2, .int pol)] [.int w7] s2 = some x := h
  obtain ⟨n7, l7, ⟨c10, h⟩ | ⟨c10, h⟩⟩ := u_if0 h (by decide +kernel : pins 182 10 = some (16, 13, 0, ((22 : Nat) : Int), []))
  · obtain ⟨n8, w22, l8, ⟨e22, i22⟩, h⟩ := u_ic h (by decide +kernel : pins 182 22 = some (0, 23, 0, 0, [])) (by decide)
    have ex := u_ret38 h (by decide +kernel : pins 182 23 = some (38, 24, 0, 0, []))
    subst ex
    refine ⟨_, rfl, Or.inr ⟨fun a => ?_, i22, fun q => ⟨by rw [u2, up_ne (by decide)], by rw [u2, up_ne (by decide)]⟩⟩⟩
    rcases f7 with f | f
    · exact f.2 a.1
    · exact f.1 c10
  · obtain ⟨n10, l10, h⟩ := v_al h (by decide +kernel : pins 182 13 = some (5, 14, 0, 0, [])) (v := t) rfl
    obtain ⟨n11, l11, h⟩ := w_row (k := 4) S2.1 h (by decide +kernel : pins 182 14 = some (22, 17, 13, 4, [])) (by decide)
    obtain ⟨n12, l12, h⟩ := v_il h (by decide +kernel : pins 182 17 = some (3, 18, 1, 0, [])) (v := hh) rfl
    obtain ⟨n13, w18, l13, b18, e18, h⟩ := w_bald S2.1 h (by decide +kernel : pins 182 18 = some (25, 19, 0, 0, [])) (by decide)
    obtain ⟨n14, l14, ⟨c19, h⟩ | ⟨c19, h⟩⟩ := u_if1 h (by decide +kernel : pins 182 19 = some (16, 22, 1, ((24 : Nat) : Int), []))
    · obtain ⟨n15, l15, h⟩ := v_il h (by decide +kernel : pins 182 24 = some (3, 25, 2, 0, [])) (v := pol) rfl
      obtain ⟨n16, l16, ⟨c25, h⟩ | ⟨c25, h⟩⟩ := u_if0 h (by decide +kernel : pins 182 25 = some (16, 28, 0, ((45 : Nat) : Int), []))
      · obtain ⟨n17, l17, h⟩ := v_al h (by decide +kernel : pins 182 45 = some (5, 46, 0, 0, [])) (v := t) rfl
        obtain ⟨n18, l18, h⟩ := v_il h (by decide +kernel : pins 182 46 = some (3, 47, 1, 0, [])) (v := hh) rfl
        obtain ⟨n19, r47, s47, l19, h47, h⟩ := pinv_call h (by decide +kernel : pins 182 47 = some (36, 50, 181, 0, [2]))
        have h47 : prun n19 181 0 (lv_args 0 [.ref t, .int hh]) [] s2 = some (r47, s47) := h47
        obtain ⟨er47, S47, g47, z47⟩ := pc_forgets2 S2.1 h47
        have er47 : r47 = none := er47
        subst er47
        try dsimp only at S47
        try dsimp only at g47
        try dsimp only at z47
        have h : prun n19 182 50 [(0, .ref t), (1, .int hh), (2, .int pol)] [] s47 = some x := h
        obtain ⟨n20, w50, l20, ⟨e50, i50⟩, h⟩ := u_ic h (by decide +kernel : pins 182 50 = some (0, 51, 1, 0, [])) (by decide)
        have ex := u_ret38 h (by decide +kernel : pins 182 51 = some (38, 52, 0, 0, []))
        subst ex
        have ha : 0 ≤ hh.toInt ∧ hh.toInt ≤ 7 := by
          rcases f7 with f | f
          · exact absurd f.1 c10
          · exact f.2
        refine ⟨_, rfl, Or.inl ⟨⟨ha, fun a => c19 ?_⟩, i50, fun q hq => ⟨(g47 q hq).1.trans ((by rw [u2, up_ne (by decide)])), (g47 q hq).2.trans ((by rw [u2, up_ne (by decide)]))⟩, z47⟩⟩
        rw [e18, u2, gI_ne (by decide)]; exact a
      · obtain ⟨n22, l22, h⟩ := v_al h (by decide +kernel : pins 182 28 = some (5, 29, 0, 0, [])) (v := t) rfl
        obtain ⟨n23, l23, h⟩ := w_row (k := 16) S2.1 h (by decide +kernel : pins 182 29 = some (22, 32, 13, 16, [])) (by decide)
        obtain ⟨n24, l24, h⟩ := v_il h (by decide +kernel : pins 182 32 = some (3, 33, 1, 0, [])) (v := hh) rfl
        obtain ⟨n25, w33, l25, b33, e33, h⟩ := w_iald S2.1 h (by decide +kernel : pins 182 33 = some (24, 34, 0, 0, [])) (by decide)
        obtain ⟨n26, w34, l26, ⟨e34, i34⟩, h⟩ := u_ic h (by decide +kernel : pins 182 34 = some (0, 35, 3, 0, [])) (by decide)
        obtain ⟨n27, l27, ⟨c35, h⟩ | ⟨c35, h⟩⟩ := u_ic1 h (by decide +kernel : pins 182 35 = some (17, 38, 1, ((45 : Nat) : Int), []))
        · obtain ⟨n28, l28, h⟩ := v_al h (by decide +kernel : pins 182 45 = some (5, 46, 0, 0, [])) (v := t) rfl
          obtain ⟨n29, l29, h⟩ := v_il h (by decide +kernel : pins 182 46 = some (3, 47, 1, 0, [])) (v := hh) rfl
          obtain ⟨n30, r47, s47, l30, h47, h⟩ := pinv_call h (by decide +kernel : pins 182 47 = some (36, 50, 181, 0, [2]))
          have h47 : prun n30 181 0 (lv_args 0 [.ref t, .int hh]) [] s2 = some (r47, s47) := h47
          obtain ⟨er47, S47, g47, z47⟩ := pc_forgets2 S2.1 h47
          have er47 : r47 = none := er47
          subst er47
          try dsimp only at S47
          try dsimp only at g47
          try dsimp only at z47
          have h : prun n30 182 50 [(0, .ref t), (1, .int hh), (2, .int pol)] [] s47 = some x := h
          obtain ⟨n31, w50, l31, ⟨e50, i50⟩, h⟩ := u_ic h (by decide +kernel : pins 182 50 = some (0, 51, 1, 0, [])) (by decide)
          have ex := u_ret38 h (by decide +kernel : pins 182 51 = some (38, 52, 0, 0, []))
          subst ex
          have ha : 0 ≤ hh.toInt ∧ hh.toInt ≤ 7 := by
            rcases f7 with f | f
            · exact absurd f.1 c10
            · exact f.2
          refine ⟨_, rfl, Or.inl ⟨⟨ha, fun a => c19 ?_⟩, i50, fun q hq => ⟨(g47 q hq).1.trans ((by rw [u2, up_ne (by decide)])), (g47 q hq).2.trans ((by rw [u2, up_ne (by decide)]))⟩, z47⟩⟩
          rw [e18, u2, gI_ne (by decide)]; exact a
        · obtain ⟨n33, l33, h⟩ := v_al h (by decide +kernel : pins 182 38 = some (5, 39, 0, 0, [])) (v := t) rfl
          obtain ⟨n34, l34, h⟩ := v_il h (by decide +kernel : pins 182 39 = some (3, 40, 1, 0, [])) (v := hh) rfl
          obtain ⟨n35, w40, l35, ⟨e40, i40⟩, h⟩ := u_ic h (by decide +kernel : pins 182 40 = some (0, 41, 0, 0, [])) (by decide)
          obtain ⟨n36, w41, l36, ⟨e41, i41⟩, h⟩ := u_ic h (by decide +kernel : pins 182 41 = some (0, 42, 1, 0, [])) (by decide)
          obtain ⟨n37, r42, s42, l37, h42, h⟩ := pinv_call h (by decide +kernel : pins 182 42 = some (36, 45, 152, 0, [4]))
          have h42 : prun n37 152 0 (lv_args 0 [.ref t, .int hh, .int w40, .int w41]) [] s2 = some (r42, s42) := h42
          have HA2 : 0 ≤ (gI (vw t A s2) 46 0).toInt ∧ (gI (vw t A s2) 46 0).toInt < 800 := by rw [u2, gI_ne (by decide)]; exact HA
          have HM2 : 0 ≤ (gI (vw t A s2) 47 0).toInt ∧ (gI (vw t A s2) 47 0).toInt ≤ 1000 := by rw [u2, gI_ne (by decide)]; exact HM
          obtain ⟨er42, S42, F42, N42⟩ := pc_tells S2.1 h42 HA2 HM2
          have er42 : r42 = none := er42
          subst er42
          try dsimp only at S42
          try dsimp only at F42
          try dsimp only at N42
          have h : prun n37 182 45 [(0, .ref t), (1, .int hh), (2, .int pol)] [] s42 = some x := h
          obtain ⟨n38, l38, h⟩ := v_al h (by decide +kernel : pins 182 45 = some (5, 46, 0, 0, [])) (v := t) rfl
          obtain ⟨n39, l39, h⟩ := v_il h (by decide +kernel : pins 182 46 = some (3, 47, 1, 0, [])) (v := hh) rfl
          obtain ⟨n40, r47, s47, l40, h47, h⟩ := pinv_call h (by decide +kernel : pins 182 47 = some (36, 50, 181, 0, [2]))
          have h47 : prun n40 181 0 (lv_args 0 [.ref t, .int hh]) [] s42 = some (r47, s47) := h47
          obtain ⟨er47, S47, g47, z47⟩ := pc_forgets2 S42.1 h47
          have er47 : r47 = none := er47
          subst er47
          try dsimp only at S47
          try dsimp only at g47
          try dsimp only at z47
          have h : prun n40 182 50 [(0, .ref t), (1, .int hh), (2, .int pol)] [] s47 = some x := h
          obtain ⟨n41, w50, l41, ⟨e50, i50⟩, h⟩ := u_ic h (by decide +kernel : pins 182 50 = some (0, 51, 1, 0, [])) (by decide)
          have ex := u_ret38 h (by decide +kernel : pins 182 51 = some (38, 52, 0, 0, []))
          subst ex
          have ha : 0 ≤ hh.toInt ∧ hh.toInt ≤ 7 := by
            rcases f7 with f | f
            · exact absurd f.1 c10
            · exact f.2
          refine ⟨_, rfl, Or.inl ⟨⟨ha, fun a => c19 ?_⟩, i50, fun q hq => ⟨(g47 q hq).1.trans ((F42 4 q (by omega)).trans (by rw [u2, up_ne (by decide)])), (g47 q hq).2.trans ((F42 5 q (by omega)).trans (by rw [u2, up_ne (by decide)]))⟩, z47⟩⟩
          rw [e18, u2, gI_ne (by decide)]; exact a
    · obtain ⟨n43, w22, l43, ⟨e22, i22⟩, h⟩ := u_ic h (by decide +kernel : pins 182 22 = some (0, 23, 0, 0, [])) (by decide)
      have ex := u_ret38 h (by decide +kernel : pins 182 23 = some (38, 24, 0, 0, []))
      subst ex
      refine ⟨_, rfl, Or.inr ⟨fun a => a.2 ?_, i22, fun q => ⟨by rw [u2, up_ne (by decide)], by rw [u2, up_ne (by decide)]⟩⟩⟩
      rw [← gI_ne (V := vw t A σ) (j := 3) (i := 0) (v := .int w1) (by decide), ← u2, ← e18]; exact c19
theorem pc_lose2 {t n : Nat} {A : Nat → Nat} {hh nn : Int32} {σ : ps} {x : Option Value × ps} (W : Wld t A σ) (h : prun n 190 0 (lv_args 0 [.ref t, .int hh, .int nn]) [] σ = some x) : ∃ w : Int32, x.1 = some (.int w) ∧ ((loseOK (gI (vw t A σ) 4) hh nn ∧ w.toInt = 1) ∨ ((¬ loseOK (gI (vw t A σ) 4) hh nn) ∧ w.toInt = 0)) := by
  have h : prun n 190 0 [(0, .ref t), (1, .int hh), (2, .int nn)] [] σ = some x := h
  obtain ⟨n1, l1, h⟩ := v_al h (by decide +kernel : pins 190 0 = some (5, 1, 0, 0, [])) (v := t) rfl
  obtain ⟨n2, w1, l2, ⟨e1, i1⟩, h⟩ := u_ic h (by decide +kernel : pins 190 1 = some (0, 2, 0, 0, [])) (by decide)
  obtain ⟨n3, s2, l3, S2, u2, h⟩ := w_put (k := 3) W h (by decide +kernel : pins 190 2 = some (23, 5, 13, 3, [])) (by decide)
  obtain ⟨n4, l4, h⟩ := v_al h (by decide +kernel : pins 190 5 = some (5, 6, 0, 0, [])) (v := t) rfl
  obtain ⟨n5, l5, h⟩ := v_il h (by decide +kernel : pins 190 6 = some (3, 7, 1, 0, [])) (v := hh) rfl
  obtain ⟨n6, r7, s7, l6, h7, h⟩ := pinv_call h (by decide +kernel : pins 190 7 = some (36, 10, 179, 0, [2]))
  have h7 : prun n6 179 0 (lv_args 0 [.ref t, .int hh]) [] s2 = some (r7, s7) := h7
  obtain ⟨es7, w7, er7, f7⟩ := pc_isHost2 S2.1 h7
  have er7 : r7 = some (.int w7) := er7
  have et7 : s7 = s2 := es7
  rw [et7] at h
  subst er7
  have h : prun n6 190 10 [(0, .ref t), (1, .int hh), (2, .int nn)] [.int w7] s2 = some x := h
  obtain ⟨n7, l7, ⟨c10, h⟩ | ⟨c10, h⟩⟩ := u_if0 h (by decide +kernel : pins 190 10 = some (16, 13, 0, ((33 : Nat) : Int), []))
  · obtain ⟨n8, w33, l8, ⟨e33, i33⟩, h⟩ := u_ic h (by decide +kernel : pins 190 33 = some (0, 34, 0, 0, [])) (by decide)
    have ex := u_ret38 h (by decide +kernel : pins 190 34 = some (38, 35, 0, 0, []))
    subst ex
    refine ⟨_, rfl, Or.inr ⟨fun a => ?_, i33⟩⟩
    rcases f7 with f | f
    · exact f.2 a.1.1
    · exact f.1 c10
  · obtain ⟨n10, l10, h⟩ := v_al h (by decide +kernel : pins 190 13 = some (5, 14, 0, 0, [])) (v := t) rfl
    obtain ⟨n11, l11, h⟩ := w_row (k := 4) S2.1 h (by decide +kernel : pins 190 14 = some (22, 17, 13, 4, [])) (by decide)
    obtain ⟨n12, l12, h⟩ := v_il h (by decide +kernel : pins 190 17 = some (3, 18, 1, 0, [])) (v := hh) rfl
    obtain ⟨n13, w18, l13, b18, e18, h⟩ := w_bald S2.1 h (by decide +kernel : pins 190 18 = some (25, 19, 0, 0, [])) (by decide)
    obtain ⟨n14, l14, ⟨c19, h⟩ | ⟨c19, h⟩⟩ := u_if0 h (by decide +kernel : pins 190 19 = some (16, 22, 0, ((33 : Nat) : Int), []))
    · obtain ⟨n15, w33, l15, ⟨e33, i33⟩, h⟩ := u_ic h (by decide +kernel : pins 190 33 = some (0, 34, 0, 0, [])) (by decide)
      have ex := u_ret38 h (by decide +kernel : pins 190 34 = some (38, 35, 0, 0, []))
      subst ex
      refine ⟨_, rfl, Or.inr ⟨fun a => ?_, i33⟩⟩
      refine a.1.2 ?_
      rw [← gI_ne (V := vw t A σ) (j := 3) (i := 0) (v := .int w1) (by decide), ← u2, ← e18]; exact c19
    · obtain ⟨n17, l17, h⟩ := v_il h (by decide +kernel : pins 190 22 = some (3, 23, 2, 0, [])) (v := nn) rfl
      obtain ⟨n18, l18, ⟨c23, h⟩ | ⟨c23, h⟩⟩ := u_if2 h (by decide +kernel : pins 190 23 = some (16, 26, 2, ((33 : Nat) : Int), []))
      · obtain ⟨n19, w33, l19, ⟨e33, i33⟩, h⟩ := u_ic h (by decide +kernel : pins 190 33 = some (0, 34, 0, 0, [])) (by decide)
        have ex := u_ret38 h (by decide +kernel : pins 190 34 = some (38, 35, 0, 0, []))
        subst ex
        refine ⟨_, rfl, Or.inr ⟨fun a => ?_, i33⟩⟩
        have := a.2
        omega
      · obtain ⟨n21, l21, h⟩ := v_il h (by decide +kernel : pins 190 26 = some (3, 27, 2, 0, [])) (v := nn) rfl
        obtain ⟨n22, w27, l22, ⟨e27, i27⟩, h⟩ := u_ic h (by decide +kernel : pins 190 27 = some (0, 30, 1000, 0, [])) (by decide)
        obtain ⟨n23, l23, ⟨c30, h⟩ | ⟨c30, h⟩⟩ := u_ic5 h (by decide +kernel : pins 190 30 = some (17, 33, 5, ((35 : Nat) : Int), []))
        · obtain ⟨n24, l24, h⟩ := v_al h (by decide +kernel : pins 190 35 = some (5, 36, 0, 0, [])) (v := t) rfl
          obtain ⟨n25, l25, h⟩ := w_row (k := 9) S2.1 h (by decide +kernel : pins 190 36 = some (22, 39, 13, 9, [])) (by decide)
          obtain ⟨n26, l26, h⟩ := v_il h (by decide +kernel : pins 190 39 = some (3, 40, 1, 0, [])) (v := hh) rfl
          obtain ⟨n27, l27, h⟩ := v_il h (by decide +kernel : pins 190 40 = some (3, 41, 2, 0, [])) (v := nn) rfl
          obtain ⟨n28, s41, l28, b41, S41, u41, h⟩ := w_iast S2.1 h (by decide +kernel : pins 190 41 = some (28, 42, 0, 0, [])) (by decide)
          obtain ⟨n29, w42, l29, ⟨e42, i42⟩, h⟩ := u_ic h (by decide +kernel : pins 190 42 = some (0, 43, 1, 0, [])) (by decide)
          have ex := u_ret38 h (by decide +kernel : pins 190 43 = some (38, 44, 0, 0, []))
          subst ex
          have ha : 0 ≤ hh.toInt ∧ hh.toInt ≤ 7 := by
            rcases f7 with f | f
            · exact absurd f.1 c10
            · exact f.2
          refine ⟨_, rfl, Or.inl ⟨⟨⟨ha, fun a => c19 ?_⟩, by omega, by omega⟩, i42⟩⟩
          rw [e18, u2, gI_ne (by decide)]; exact a
        · obtain ⟨n31, w33, l31, ⟨e33, i33⟩, h⟩ := u_ic h (by decide +kernel : pins 190 33 = some (0, 34, 0, 0, [])) (by decide)
          have ex := u_ret38 h (by decide +kernel : pins 190 34 = some (38, 35, 0, 0, []))
          subst ex
          refine ⟨_, rfl, Or.inr ⟨fun a => ?_, i33⟩⟩
          have := a.2
          omega
