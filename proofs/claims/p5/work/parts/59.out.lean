theorem pc_same_l {t : Nat} {A : Nat → Nat} {k1 k2 : Nat} {i j : Int32} (hk1 : isRw k1 = true) (hk2 : isRw k2 = true) : ∀ (n : Nat) (c is : Int32) (σ : ps) (x : Option Value × ps), Wld t A σ → (True) → prun n 141 19 [(5, .int c), (4, .int is), (0, .ref (A k1)), (1, .int i), (2, .ref (A k2)), (3, .int j)] [] σ = some x → x.2 = σ ∧ ∃ w : Int32, x.1 = some (.int w) ∧ True := by
  intro n
  induction n using Nat.strongRecOn with
  | ind n ih =>
    intro c is σ x W I h
    obtain ⟨n1, l1, h⟩ := v_il h (by decide +kernel : pins 141 19 = some (3, 21, 5, 0, [])) (v := c) rfl
    obtain ⟨n2, l2, h⟩ := v_al h (by decide +kernel : pins 141 21 = some (5, 22, 0, 0, [])) (v := (A k1)) rfl
    obtain ⟨n3, l3, h⟩ := v_il h (by decide +kernel : pins 141 22 = some (3, 23, 1, 0, [])) (v := i) rfl
    obtain ⟨n4, w23, l4, b23, e23, h⟩ := w_iald W h (by decide +kernel : pins 141 23 = some (24, 24, 0, 0, [])) hk1
    obtain ⟨n5, l5, ⟨c24, h⟩ | ⟨c24, h⟩⟩ := u_ic4 h (by decide +kernel : pins 141 24 = some (17, 27, 4, ((60 : Nat) : Int), []))
    · obtain ⟨n6, l6, h⟩ := v_il h (by decide +kernel : pins 141 60 = some (3, 62, 4, 0, [])) (v := is) rfl
      have ex := u_ret38 h (by decide +kernel : pins 141 62 = some (38, 63, 0, 0, []))
      subst ex
      exact ⟨rfl, _, rfl, trivial⟩
    · obtain ⟨n8, l8, h⟩ := v_il h (by decide +kernel : pins 141 27 = some (3, 29, 4, 0, [])) (v := is) rfl
      obtain ⟨n9, l9, ⟨c29, h⟩ | ⟨c29, h⟩⟩ := u_if0 h (by decide +kernel : pins 141 29 = some (16, 32, 0, ((60 : Nat) : Int), []))
      · obtain ⟨n10, l10, h⟩ := v_il h (by decide +kernel : pins 141 60 = some (3, 62, 4, 0, [])) (v := is) rfl
        have ex := u_ret38 h (by decide +kernel : pins 141 62 = some (38, 63, 0, 0, []))
        subst ex
        exact ⟨rfl, _, rfl, trivial⟩
      · obtain ⟨n12, l12, h⟩ := v_al h (by decide +kernel : pins 141 32 = some (5, 33, 0, 0, [])) (v := (A k1)) rfl
        obtain ⟨n13, l13, h⟩ := v_il h (by decide +kernel : pins 141 33 = some (3, 34, 1, 0, [])) (v := i) rfl
        obtain ⟨n14, l14, h⟩ := v_il h (by decide +kernel : pins 141 34 = some (3, 36, 5, 0, [])) (v := c) rfl
        obtain ⟨n15, w36, l15, e36, h⟩ := u_add h (by decide +kernel : pins 141 36 = some (10, 37, 0, 0, []))
        obtain ⟨n16, w37, l16, b37, e37, h⟩ := w_iald W h (by decide +kernel : pins 141 37 = some (24, 38, 0, 0, [])) hk1
        obtain ⟨n17, l17, h⟩ := v_al h (by decide +kernel : pins 141 38 = some (5, 39, 2, 0, [])) (v := (A k2)) rfl
        obtain ⟨n18, l18, h⟩ := v_il h (by decide +kernel : pins 141 39 = some (3, 40, 3, 0, [])) (v := j) rfl
        obtain ⟨n19, l19, h⟩ := v_il h (by decide +kernel : pins 141 40 = some (3, 42, 5, 0, [])) (v := c) rfl
        obtain ⟨n20, w42, l20, e42, h⟩ := u_add h (by decide +kernel : pins 141 42 = some (10, 43, 0, 0, []))
        obtain ⟨n21, w43, l21, b43, e43, h⟩ := w_iald W h (by decide +kernel : pins 141 43 = some (24, 44, 0, 0, [])) hk2
        obtain ⟨n22, l22, ⟨c44, h⟩ | ⟨c44, h⟩⟩ := u_ic1 h (by decide +kernel : pins 141 44 = some (17, 47, 1, ((51 : Nat) : Int), []))
        · obtain ⟨n23, w51, l23, ⟨e51, i51⟩, h⟩ := u_ic h (by decide +kernel : pins 141 51 = some (0, 52, 0, 0, [])) (by decide)
          obtain ⟨n24, l24, h⟩ := v_is h (by decide +kernel : pins 141 52 = some (6, 54, 4, 0, []))
          have h : prun n24 141 54 [(4, .int w51), (5, .int c), (0, .ref (A k1)), (1, .int i), (2, .ref (A k2)), (3, .int j)] [] σ = some x := h
          obtain ⟨n25, w54, l25, e54, h⟩ := u_inc h (by decide +kernel : pins 141 54 = some (9, 57, 5, 1, [])) (v := c) rfl
          have h : prun n25 141 57 [(5, .int w54), (4, .int w51), (0, .ref (A k1)), (1, .int i), (2, .ref (A k2)), (3, .int j)] [] σ = some x := h
          obtain ⟨n26, l26, h⟩ := u_go h (by decide +kernel : pins 141 57 = some (20, 60, 0, ((19 : Nat) : Int), []))
          have h := prun_lv h (lv' := [(5, .int w54), (4, .int w51), (0, .ref (A k1)), (1, .int i), (2, .ref (A k2)), (3, .int j)]) (lvLe.cons (lvLe.cons (lvLe.cons (lvLe.cons (lvLe.cons (lvLe.cons lvLe.nil rfl) rfl) rfl) rfl) rfl) rfl) (by decide : ([5, 4, 0, 1, 2, 3] : List Nat).Nodup) (by decide : ([5, 4, 0, 1, 2, 3] : List Nat).Nodup)
          exact ih n26 (by omega) _ _ _ x W trivial h
        · obtain ⟨n27, w47, l27, ⟨e47, i47⟩, h⟩ := u_ic h (by decide +kernel : pins 141 47 = some (0, 48, 1, 0, [])) (by decide)
          obtain ⟨n28, l28, h⟩ := u_go h (by decide +kernel : pins 141 48 = some (20, 51, 0, ((52 : Nat) : Int), []))
          obtain ⟨n29, l29, h⟩ := v_is h (by decide +kernel : pins 141 52 = some (6, 54, 4, 0, []))
          have h : prun n29 141 54 [(4, .int w47), (5, .int c), (0, .ref (A k1)), (1, .int i), (2, .ref (A k2)), (3, .int j)] [] σ = some x := h
          obtain ⟨n30, w54, l30, e54, h⟩ := u_inc h (by decide +kernel : pins 141 54 = some (9, 57, 5, 1, [])) (v := c) rfl
          have h : prun n30 141 57 [(5, .int w54), (4, .int w47), (0, .ref (A k1)), (1, .int i), (2, .ref (A k2)), (3, .int j)] [] σ = some x := h
          obtain ⟨n31, l31, h⟩ := u_go h (by decide +kernel : pins 141 57 = some (20, 60, 0, ((19 : Nat) : Int), []))
          have h := prun_lv h (lv' := [(5, .int w54), (4, .int w47), (0, .ref (A k1)), (1, .int i), (2, .ref (A k2)), (3, .int j)]) (lvLe.cons (lvLe.cons (lvLe.cons (lvLe.cons (lvLe.cons (lvLe.cons lvLe.nil rfl) rfl) rfl) rfl) rfl) rfl) (by decide : ([5, 4, 0, 1, 2, 3] : List Nat).Nodup) (by decide : ([5, 4, 0, 1, 2, 3] : List Nat).Nodup)
          exact ih n31 (by omega) _ _ _ x W trivial h
theorem pc_same {t n : Nat} {A : Nat → Nat} {k1 k2 : Nat} {i j : Int32} {σ : ps} {x : Option Value × ps} (W : Wld t A σ) (h : prun n 141 0 (lv_args 0 [.ref (A k1), .int i, .ref (A k2), .int j]) [] σ = some x) (hk1 : isRw k1 = true) (hk2 : isRw k2 = true) : x.2 = σ ∧ ∃ w : Int32, x.1 = some (.int w) ∧ True := by
  have h : prun n 141 0 [(0, .ref (A k1)), (1, .int i), (2, .ref (A k2)), (3, .int j)] [] σ = some x := h
  obtain ⟨n1, l1, h⟩ := v_al h (by decide +kernel : pins 141 0 = some (5, 1, 0, 0, [])) (v := (A k1)) rfl
  obtain ⟨n2, l2, h⟩ := v_il h (by decide +kernel : pins 141 1 = some (3, 2, 1, 0, [])) (v := i) rfl
  obtain ⟨n3, w2, l3, b2, e2, h⟩ := w_iald W h (by decide +kernel : pins 141 2 = some (24, 3, 0, 0, [])) hk1
  obtain ⟨n4, l4, h⟩ := v_al h (by decide +kernel : pins 141 3 = some (5, 4, 2, 0, [])) (v := (A k2)) rfl
  obtain ⟨n5, l5, h⟩ := v_il h (by decide +kernel : pins 141 4 = some (3, 5, 3, 0, [])) (v := j) rfl
  obtain ⟨n6, w5, l6, b5, e5, h⟩ := w_iald W h (by decide +kernel : pins 141 5 = some (24, 6, 0, 0, [])) hk2
  obtain ⟨n7, l7, ⟨c6, h⟩ | ⟨c6, h⟩⟩ := u_ic1 h (by decide +kernel : pins 141 6 = some (17, 9, 1, ((13 : Nat) : Int), []))
  · obtain ⟨n8, w13, l8, ⟨e13, i13⟩, h⟩ := u_ic h (by decide +kernel : pins 141 13 = some (0, 14, 0, 0, [])) (by decide)
    obtain ⟨n9, l9, h⟩ := v_is h (by decide +kernel : pins 141 14 = some (6, 16, 4, 0, []))
    have h : prun n9 141 16 [(4, .int w13), (0, .ref (A k1)), (1, .int i), (2, .ref (A k2)), (3, .int j)] [] σ = some x := h
    obtain ⟨n10, w16, l10, ⟨e16, i16⟩, h⟩ := u_ic h (by decide +kernel : pins 141 16 = some (0, 17, 1, 0, [])) (by decide)
    obtain ⟨n11, l11, h⟩ := v_is h (by decide +kernel : pins 141 17 = some (6, 19, 5, 0, []))
    have h : prun n11 141 19 [(5, .int w16), (4, .int w13), (0, .ref (A k1)), (1, .int i), (2, .ref (A k2)), (3, .int j)] [] σ = some x := h
    have h := prun_lv h (lv' := [(5, .int w16), (4, .int w13), (0, .ref (A k1)), (1, .int i), (2, .ref (A k2)), (3, .int j)]) (lvLe.cons (lvLe.cons (lvLe.cons (lvLe.cons (lvLe.cons (lvLe.cons lvLe.nil rfl) rfl) rfl) rfl) rfl) rfl) (by decide : ([5, 4, 0, 1, 2, 3] : List Nat).Nodup) (by decide : ([5, 4, 0, 1, 2, 3] : List Nat).Nodup)
    exact pc_same_l hk1 hk2 _ _ _ _ x W trivial h
  · obtain ⟨n12, w9, l12, ⟨e9, i9⟩, h⟩ := u_ic h (by decide +kernel : pins 141 9 = some (0, 10, 1, 0, [])) (by decide)
    obtain ⟨n13, l13, h⟩ := u_go h (by decide +kernel : pins 141 10 = some (20, 13, 0, ((14 : Nat) : Int), []))
    obtain ⟨n14, l14, h⟩ := v_is h (by decide +kernel : pins 141 14 = some (6, 16, 4, 0, []))
    have h : prun n14 141 16 [(4, .int w9), (0, .ref (A k1)), (1, .int i), (2, .ref (A k2)), (3, .int j)] [] σ = some x := h
    obtain ⟨n15, w16, l15, ⟨e16, i16⟩, h⟩ := u_ic h (by decide +kernel : pins 141 16 = some (0, 17, 1, 0, [])) (by decide)
    obtain ⟨n16, l16, h⟩ := v_is h (by decide +kernel : pins 141 17 = some (6, 19, 5, 0, []))
    have h : prun n16 141 19 [(5, .int w16), (4, .int w9), (0, .ref (A k1)), (1, .int i), (2, .ref (A k2)), (3, .int j)] [] σ = some x := h
    have h := prun_lv h (lv' := [(5, .int w16), (4, .int w9), (0, .ref (A k1)), (1, .int i), (2, .ref (A k2)), (3, .int j)]) (lvLe.cons (lvLe.cons (lvLe.cons (lvLe.cons (lvLe.cons (lvLe.cons lvLe.nil rfl) rfl) rfl) rfl) rfl) rfl) (by decide : ([5, 4, 0, 1, 2, 3] : List Nat).Nodup) (by decide : ([5, 4, 0, 1, 2, 3] : List Nat).Nodup)
    exact pc_same_l hk1 hk2 _ _ _ _ x W trivial h
theorem pc_copy_l {t : Nat} {A : Nat → Nat} {k1 k2 : Nat} {i j : Int32} (hk1 : isRw k1 = true) (hk2 : isRw k2 = true) : ∀ (n : Nat) (c : Int32) (σ : ps) (x : Option Value × ps), Wld t A σ → (True) → prun n 142 3 [(4, .int c), (0, .ref (A k1)), (1, .int i), (2, .ref (A k2)), (3, .int j)] [] σ = some x → x.1 = none ∧ SP t A σ x.2 ∧ ∀ r q, ¬ r = k2 → vw t A x.2 r q = vw t A σ r q := by
  intro n
  induction n using Nat.strongRecOn with
  | ind n ih =>
    intro c σ x W I h
    obtain ⟨n1, l1, h⟩ := v_il h (by decide +kernel : pins 142 3 = some (3, 5, 4, 0, [])) (v := c) rfl
    obtain ⟨n2, w5, l2, ⟨e5, i5⟩, h⟩ := u_ic h (by decide +kernel : pins 142 5 = some (0, 7, 16, 0, [])) (by decide)
    obtain ⟨n3, l3, ⟨c7, h⟩ | ⟨c7, h⟩⟩ := u_ic3 h (by decide +kernel : pins 142 7 = some (17, 10, 3, ((28 : Nat) : Int), []))
    · have ex := u_ret37 h (by decide +kernel : pins 142 28 = some (37, 29, 0, 0, []))
      subst ex
      exact ⟨rfl, SP.rf W, fun r q _ => rfl⟩
    · obtain ⟨n5, l5, h⟩ := v_al h (by decide +kernel : pins 142 10 = some (5, 11, 2, 0, [])) (v := (A k2)) rfl
      obtain ⟨n6, l6, h⟩ := v_il h (by decide +kernel : pins 142 11 = some (3, 12, 3, 0, [])) (v := j) rfl
      obtain ⟨n7, l7, h⟩ := v_il h (by decide +kernel : pins 142 12 = some (3, 14, 4, 0, [])) (v := c) rfl
      obtain ⟨n8, w14, l8, e14, h⟩ := u_add h (by decide +kernel : pins 142 14 = some (10, 15, 0, 0, []))
      obtain ⟨n9, l9, h⟩ := v_al h (by decide +kernel : pins 142 15 = some (5, 16, 0, 0, [])) (v := (A k1)) rfl
      obtain ⟨n10, l10, h⟩ := v_il h (by decide +kernel : pins 142 16 = some (3, 17, 1, 0, [])) (v := i) rfl
      obtain ⟨n11, l11, h⟩ := v_il h (by decide +kernel : pins 142 17 = some (3, 19, 4, 0, [])) (v := c) rfl
      obtain ⟨n12, w19, l12, e19, h⟩ := u_add h (by decide +kernel : pins 142 19 = some (10, 20, 0, 0, []))
      obtain ⟨n13, w20, l13, b20, e20, h⟩ := w_iald W h (by decide +kernel : pins 142 20 = some (24, 21, 0, 0, [])) hk1
      obtain ⟨n14, s21, l14, b21, S21, u21, h⟩ := w_iast W h (by decide +kernel : pins 142 21 = some (28, 22, 0, 0, [])) hk2
      obtain ⟨n15, w22, l15, e22, h⟩ := u_inc h (by decide +kernel : pins 142 22 = some (9, 25, 4, 1, [])) (v := c) rfl
      have h : prun n15 142 25 [(4, .int w22), (0, .ref (A k1)), (1, .int i), (2, .ref (A k2)), (3, .int j)] [] s21 = some x := h
      obtain ⟨n16, l16, h⟩ := u_go h (by decide +kernel : pins 142 25 = some (20, 28, 0, ((3 : Nat) : Int), []))
      have h := prun_lv h (lv' := [(4, .int w22), (0, .ref (A k1)), (1, .int i), (2, .ref (A k2)), (3, .int j)]) (lvLe.cons (lvLe.cons (lvLe.cons (lvLe.cons (lvLe.cons lvLe.nil rfl) rfl) rfl) rfl) rfl) (by decide : ([4, 0, 1, 2, 3] : List Nat).Nodup) (by decide : ([4, 0, 1, 2, 3] : List Nat).Nodup)
      obtain ⟨q1, q2, q3⟩ := ih n16 (by omega) _ _ x S21.1 trivial h
      exact ⟨q1, S21.tr q2, fun r q hr => (q3 r q hr).trans (by rw [u21, up_ne hr])⟩
theorem pc_copy {t n : Nat} {A : Nat → Nat} {k1 k2 : Nat} {i j : Int32} {σ : ps} {x : Option Value × ps} (W : Wld t A σ) (h : prun n 142 0 (lv_args 0 [.ref (A k1), .int i, .ref (A k2), .int j]) [] σ = some x) (hk1 : isRw k1 = true) (hk2 : isRw k2 = true) : x.1 = none ∧ SP t A σ x.2 ∧ ∀ r q, ¬ r = k2 → vw t A x.2 r q = vw t A σ r q := by
  have h : prun n 142 0 [(0, .ref (A k1)), (1, .int i), (2, .ref (A k2)), (3, .int j)] [] σ = some x := h
  obtain ⟨n1, w0, l1, ⟨e0, i0⟩, h⟩ := u_ic h (by decide +kernel : pins 142 0 = some (0, 1, 0, 0, [])) (by decide)
  obtain ⟨n2, l2, h⟩ := v_is h (by decide +kernel : pins 142 1 = some (6, 3, 4, 0, []))
  have h : prun n2 142 3 [(4, .int w0), (0, .ref (A k1)), (1, .int i), (2, .ref (A k2)), (3, .int j)] [] σ = some x := h
  have h := prun_lv h (lv' := [(4, .int w0), (0, .ref (A k1)), (1, .int i), (2, .ref (A k2)), (3, .int j)]) (lvLe.cons (lvLe.cons (lvLe.cons (lvLe.cons (lvLe.cons lvLe.nil rfl) rfl) rfl) rfl) rfl) (by decide : ([4, 0, 1, 2, 3] : List Nat).Nodup) (by decide : ([4, 0, 1, 2, 3] : List Nat).Nodup)
  exact pc_copy_l hk1 hk2 _ _ _ x W trivial h
theorem pc_begin {t n : Nat} {A : Nat → Nat} {c : Int32} {σ : ps} {x : Option Value × ps} (W : Wld t A σ) (h : prun n 144 0 (lv_args 0 [.ref t, .int c]) [] σ = some x) : x.1 = none ∧ SP t A σ x.2 ∧ vw t A x.2 = up (up (up (vw t A σ) 52 0 (.int c)) 53 0 (.int 1)) 55 0 (.int 0) := by
  have h : prun n 144 0 [(0, .ref t), (1, .int c)] [] σ = some x := h
  obtain ⟨n1, l1, h⟩ := v_al h (by decide +kernel : pins 144 0 = some (5, 1, 0, 0, [])) (v := t) rfl
  obtain ⟨n2, l2, h⟩ := w_row (k := 52) W h (by decide +kernel : pins 144 1 = some (22, 4, 13, 52, [])) (by decide)
  obtain ⟨n3, w4, l3, ⟨e4, i4⟩, h⟩ := u_ic h (by decide +kernel : pins 144 4 = some (0, 5, 0, 0, [])) (by decide)
  obtain ⟨n4, l4, h⟩ := v_il h (by decide +kernel : pins 144 5 = some (3, 6, 1, 0, [])) (v := c) rfl
  obtain ⟨n5, s6, l5, b6, S6, u6, h⟩ := w_iast W h (by decide +kernel : pins 144 6 = some (28, 7, 0, 0, [])) (by decide)
  obtain ⟨n6, l6, h⟩ := v_al h (by decide +kernel : pins 144 7 = some (5, 8, 0, 0, [])) (v := t) rfl
  obtain ⟨n7, w8, l7, ⟨e8, i8⟩, h⟩ := u_ic h (by decide +kernel : pins 144 8 = some (0, 9, 1, 0, [])) (by decide)
  obtain ⟨n8, s9, l8, S9, u9, h⟩ := w_put (k := 53) S6.1 h (by decide +kernel : pins 144 9 = some (23, 12, 13, 53, [])) (by decide)
  obtain ⟨n9, l9, h⟩ := v_al h (by decide +kernel : pins 144 12 = some (5, 13, 0, 0, [])) (v := t) rfl
  obtain ⟨n10, w13, l10, ⟨e13, i13⟩, h⟩ := u_ic h (by decide +kernel : pins 144 13 = some (0, 14, 0, 0, [])) (by decide)
  obtain ⟨n11, s14, l11, S14, u14, h⟩ := w_put (k := 55) S9.1 h (by decide +kernel : pins 144 14 = some (23, 17, 13, 55, [])) (by decide)
  have ex := u_ret37 h (by decide +kernel : pins 144 17 = some (37, 18, 0, 0, []))
  subst ex
  refine ⟨rfl, ((S6.tr S9).tr S14), ?_⟩
  show vw t A s14 = _
  rw [u14, u9, u6, e4, e8, e13]
  rfl
theorem pc_put_l {t : Nat} {A : Nat → Nat} {v b : Int32} : ∀ (n : Nat) (c : Int32) (σ : ps) (x : Option Value × ps), Wld t A σ → (-1 ≤ c.toInt ∧ c.toInt ≤ 1000) → prun n 145 4 [(3, .int c), (0, .ref t), (1, .int v), (2, .int b)] [] σ = some x → x.1 = none ∧ SP t A σ x.2 ∧ (∀ j q : Nat, ¬ j = 53 → ¬ (j = 52 ∧ (gI (vw t A σ) 53 0).toInt ≤ (q : Int)) → vw t A x.2 j q = vw t A σ j q) ∧ (gI (vw t A x.2) 53 0).toInt = (gI (vw t A σ) 53 0).toInt + (c.toInt + 1) ∧ (0 ≤ c.toInt → vw t A x.2 52 ((gI (vw t A σ) 53 0).toInt + c.toInt).toNat = .int (v &&& 255)) := by
  intro n
  induction n using Nat.strongRecOn with
  | ind n ih =>
    intro c σ x W I h
    obtain ⟨n1, l1, h⟩ := v_il h (by decide +kernel : pins 145 4 = some (3, 5, 3, 0, [])) (v := c) rfl
    obtain ⟨n2, l2, ⟨c5, h⟩ | ⟨c5, h⟩⟩ := u_if2 h (by decide +kernel : pins 145 5 = some (16, 8, 2, ((43 : Nat) : Int), []))
    · have ex := u_ret37 h (by decide +kernel : pins 145 43 = some (37, 44, 0, 0, []))
      subst ex
      refine ⟨rfl, SP.rf W, fun j q _ _ => rfl, by show (gI (vw t A σ) 53 0).toInt = _; omega, fun h => absurd h (by omega)⟩
    · obtain ⟨n4, l4, h⟩ := v_al h (by decide +kernel : pins 145 8 = some (5, 9, 0, 0, [])) (v := t) rfl
      obtain ⟨n5, l5, h⟩ := w_row (k := 52) W h (by decide +kernel : pins 145 9 = some (22, 12, 13, 52, [])) (by decide)
      obtain ⟨n6, l6, h⟩ := v_al h (by decide +kernel : pins 145 12 = some (5, 13, 0, 0, [])) (v := t) rfl
      obtain ⟨n7, w13, l7, e13, h⟩ := w_fi (k := 53) W h (by decide +kernel : pins 145 13 = some (22, 16, 13, 53, [])) (by decide)
      obtain ⟨n8, l8, h⟩ := v_il h (by decide +kernel : pins 145 16 = some (3, 17, 1, 0, [])) (v := v) rfl
      obtain ⟨n9, w17, l9, ⟨e17, i17⟩, h⟩ := u_ic h (by decide +kernel : pins 145 17 = some (0, 19, 8, 0, [])) (by decide)
      obtain ⟨n10, l10, h⟩ := v_il h (by decide +kernel : pins 145 19 = some (3, 20, 3, 0, [])) (v := c) rfl
      obtain ⟨n11, w20, l11, e20, h⟩ := u_mul h (by decide +kernel : pins 145 20 = some (10, 21, 2, 0, []))
      obtain ⟨n12, w21, l12, e21, h⟩ := u_shr h (by decide +kernel : pins 145 21 = some (10, 22, 9, 0, []))
      obtain ⟨n13, w22, l13, ⟨e22, i22⟩, h⟩ := u_ic h (by decide +kernel : pins 145 22 = some (0, 25, 255, 0, [])) (by decide)
      obtain ⟨n14, w25, l14, e25, h⟩ := u_and h (by decide +kernel : pins 145 25 = some (10, 26, 5, 0, []))
      obtain ⟨n15, s26, l15, b26, S26, u26, h⟩ := w_iast W h (by decide +kernel : pins 145 26 = some (28, 27, 0, 0, [])) (by decide)
      obtain ⟨n16, l16, h⟩ := v_al h (by decide +kernel : pins 145 27 = some (5, 28, 0, 0, [])) (v := t) rfl
      obtain ⟨n17, l17, h⟩ := v_dup h (by decide +kernel : pins 145 28 = some (34, 29, 0, 0, []))
      obtain ⟨n18, w29, l18, e29, h⟩ := w_fi (k := 53) S26.1 h (by decide +kernel : pins 145 29 = some (22, 32, 13, 53, [])) (by decide)
      obtain ⟨n19, w32, l19, ⟨e32, i32⟩, h⟩ := u_ic h (by decide +kernel : pins 145 32 = some (0, 33, 1, 0, [])) (by decide)
      obtain ⟨n20, w33, l20, e33, h⟩ := u_add h (by decide +kernel : pins 145 33 = some (10, 34, 0, 0, []))
      obtain ⟨n21, s34, l21, S34, u34, h⟩ := w_put (k := 53) S26.1 h (by decide +kernel : pins 145 34 = some (23, 37, 13, 53, [])) (by decide)
      obtain ⟨n22, w37, l22, e37, h⟩ := u_inc h (by decide +kernel : pins 145 37 = some (9, 40, 3, (-1), [])) (v := c) rfl
      have h : prun n22 145 40 [(3, .int w37), (0, .ref t), (1, .int v), (2, .int b)] [] s34 = some x := h
      obtain ⟨n23, l23, h⟩ := u_go h (by decide +kernel : pins 145 40 = some (20, 43, 0, ((4 : Nat) : Int), []))
      have h := prun_lv h (lv' := [(3, .int w37), (0, .ref t), (1, .int v), (2, .int b)]) (lvLe.cons (lvLe.cons (lvLe.cons (lvLe.cons lvLe.nil rfl) rfl) rfl) rfl) (by decide : ([3, 0, 1, 2] : List Nat).Nodup) (by decide : ([3, 0, 1, 2] : List Nat).Nodup)
      have b26 : 0 ≤ w13.toInt ∧ w13.toInt < 260 := b26
      rw [← e13]
      have z29 : w29 = w13 := by rw [e29, u26, gI_ne (by decide), e13]
      have q33 : w33.toInt = w13.toInt + 1 := by rw [addc e33 i32 (by rw [z29]; omega) (by rw [z29]; omega) (by decide) (by decide), z29]
      have q37 : w37.toInt = c.toInt - 1 := by have := addc e37 (by decide : (Int32.ofInt (-1)).toInt = -1) (by omega) (by omega) (by decide) (by decide); omega
      have z34 : gI (vw t A s34) 53 0 = w33 := by rw [u34, gI_sc (by decide)]
      obtain ⟨y1, y2, y3, y4, y5⟩ := ih n23 (by omega) _ _ x S34.1 (by omega) h
      rw [z34] at y3 y4 y5
      have hn : w13.toNatClampNeg = w13.toInt.toNat := rfl
      refine ⟨y1, (S26.tr S34).tr y2, fun j q h1 h2 => ?_, by omega, fun hc => ?_⟩
      · rw [y3 j q h1 (fun e => h2 ⟨e.1, by omega⟩), u34, up_ne h1, u26]
        by_cases e : j = 52
        · subst e
          rw [up_ni (by decide) (fun e => h2 ⟨rfl, by rw [e, hn]; omega⟩)]
        · rw [up_ne e]
      · by_cases e0 : c.toInt = 0
        · have ec : c = 0 := Int32.toInt_inj.mp (by rw [e0]; rfl)
          have z25 : w25 = v &&& 255 := by
            rw [e25, e21, e20, e17, e22, ec]
            congr 1
            have : (Int32.ofInt 8 * 0 &&& 31 : Int32) = 0 := by decide
            rw [this, Int32.shiftRight_zero]
          have : (w13.toInt + c.toInt).toNat = w13.toInt.toNat := by omega
          rw [this, y3 52 _ (by decide) (fun e => by omega), u34, up_ne (by decide), u26, ← hn, up_eq, z25]
        · have := y5 (by omega)
          have e : (w33.toInt + w37.toInt).toNat = (w13.toInt + c.toInt).toNat := by omega
          rw [e] at this
          exact this
theorem pc_put {t n : Nat} {A : Nat → Nat} {v b : Int32} {σ : ps} {x : Option Value × ps} (W : Wld t A σ) (h : prun n 145 0 (lv_args 0 [.ref t, .int v, .int b]) [] σ = some x) (hb : 1 ≤ b.toInt ∧ b.toInt ≤ 8) : x.1 = none ∧ SP t A σ x.2 ∧ (∀ j q : Nat, ¬ j = 53 → ¬ (j = 52 ∧ (gI (vw t A σ) 53 0).toInt ≤ (q : Int)) → vw t A x.2 j q = vw t A σ j q) ∧ (gI (vw t A x.2) 53 0).toInt = (gI (vw t A σ) 53 0).toInt + b.toInt ∧ vw t A x.2 52 ((gI (vw t A σ) 53 0).toInt + b.toInt - 1).toNat = .int (v &&& 255) := by
  have h : prun n 145 0 [(0, .ref t), (1, .int v), (2, .int b)] [] σ = some x := h
  obtain ⟨n1, l1, h⟩ := v_il h (by decide +kernel : pins 145 0 = some (3, 1, 2, 0, [])) (v := b) rfl
  obtain ⟨n2, w1, l2, ⟨e1, i1⟩, h⟩ := u_ic h (by decide +kernel : pins 145 1 = some (0, 2, 1, 0, [])) (by decide)
  obtain ⟨n3, w2, l3, e2, h⟩ := u_sub h (by decide +kernel : pins 145 2 = some (10, 3, 1, 0, []))
  obtain ⟨n4, l4, h⟩ := v_is h (by decide +kernel : pins 145 3 = some (6, 4, 3, 0, []))
  have h : prun n4 145 4 [(3, .int w2), (0, .ref t), (1, .int v), (2, .int b)] [] σ = some x := h
  have h := prun_lv h (lv' := [(3, .int w2), (0, .ref t), (1, .int v), (2, .int b)]) (lvLe.cons (lvLe.cons (lvLe.cons (lvLe.cons lvLe.nil rfl) rfl) rfl) rfl) (by decide : ([3, 0, 1, 2] : List Nat).Nodup) (by decide : ([3, 0, 1, 2] : List Nat).Nodup)
  have q2 : w2.toInt = b.toInt - 1 := by rw [e2, n_sub (by rw [i1]; omega) (by rw [i1]; omega), i1]
  obtain ⟨y1, y2, y3, y4, y5⟩ := pc_put_l _ _ _ x W (by omega) h
  refine ⟨y1, y2, y3, by omega, ?_⟩
  have := y5 (by omega)
  rw [q2, show (gI (vw t A σ) 53 0).toInt + (b.toInt - 1) = (gI (vw t A σ) 53 0).toInt + b.toInt - 1 by omega] at this
  exact this
theorem pc_pw2 {t : Nat} {A : Nat → Nat} {k : Nat} {i : Int32} (hk : isRw k = true) : ∀ (n : Nat) (c : Int32) (σ : ps) (x : Option Value × ps), Wld t A σ → (True) → prun n 146 99 [(3, .int c), (0, .ref t), (1, .ref (A k)), (2, .int i)] [] σ = some x → x.1 = none ∧ SP t A σ x.2 ∧ (∀ j q : Nat, ¬ j = 53 → ¬ j = 54 → ¬ j = 55 → ¬ j = 56 → ¬ (j = 52 ∧ (gI (vw t A σ) 53 0).toInt ≤ (q : Int)) → vw t A x.2 j q = vw t A σ j q) ∧ (gI (vw t A σ) 53 0).toInt ≤ (gI (vw t A x.2) 53 0).toInt := by
  intro n
  induction n using Nat.strongRecOn with
  | ind n ih =>
    intro c σ x W I h
    obtain ⟨n1, l1, h⟩ := v_il h (by decide +kernel : pins 146 99 = some (3, 100, 3, 0, [])) (v := c) rfl
    obtain ⟨n2, l2, h⟩ := v_al h (by decide +kernel : pins 146 100 = some (5, 101, 1, 0, [])) (v := (A k)) rfl
    obtain ⟨n3, l3, h⟩ := v_il h (by decide +kernel : pins 146 101 = some (3, 102, 2, 0, [])) (v := i) rfl
    obtain ⟨n4, w102, l4, b102, e102, h⟩ := w_iald W h (by decide +kernel : pins 146 102 = some (24, 103, 0, 0, [])) hk
    obtain ⟨n5, l5, ⟨c103, h⟩ | ⟨c103, h⟩⟩ := u_ic4 h (by decide +kernel : pins 146 103 = some (17, 106, 4, ((122 : Nat) : Int), []))
    · have ex := u_ret37 h (by decide +kernel : pins 146 122 = some (37, 123, 0, 0, []))
      subst ex
      exact ⟨rfl, SP.rf W, fun j q _ _ _ _ _ => rfl, Int.le_refl _⟩
    · obtain ⟨n7, l7, h⟩ := v_al h (by decide +kernel : pins 146 106 = some (5, 107, 0, 0, [])) (v := t) rfl
      obtain ⟨n8, l8, h⟩ := v_al h (by decide +kernel : pins 146 107 = some (5, 108, 1, 0, [])) (v := (A k)) rfl
      obtain ⟨n9, l9, h⟩ := v_il h (by decide +kernel : pins 146 108 = some (3, 109, 2, 0, [])) (v := i) rfl
      obtain ⟨n10, l10, h⟩ := v_il h (by decide +kernel : pins 146 109 = some (3, 110, 3, 0, [])) (v := c) rfl
      obtain ⟨n11, w110, l11, e110, h⟩ := u_add h (by decide +kernel : pins 146 110 = some (10, 111, 0, 0, []))
      obtain ⟨n12, w111, l12, b111, e111, h⟩ := w_iald W h (by decide +kernel : pins 146 111 = some (24, 112, 0, 0, [])) hk
      obtain ⟨n13, w112, l13, ⟨e112, i112⟩, h⟩ := u_ic h (by decide +kernel : pins 146 112 = some (0, 113, 1, 0, [])) (by decide)
      obtain ⟨n14, r113, s113, l14, h113, h⟩ := pinv_call h (by decide +kernel : pins 146 113 = some (36, 116, 145, 0, [3]))
      have h113 : prun n14 145 0 (lv_args 0 [.ref t, .int w111, .int w112]) [] σ = some (r113, s113) := h113
      obtain ⟨er113, S113, p113, g113, _⟩ := pc_put W h113 (by rw [e112]; decide)
      have er113 : r113 = none := er113
      subst er113
      try dsimp only at S113
      try dsimp only at p113
      try dsimp only at g113
      have h : prun n14 146 116 [(3, .int c), (0, .ref t), (1, .ref (A k)), (2, .int i)] [] s113 = some x := h
      obtain ⟨n15, w116, l15, e116, h⟩ := u_inc h (by decide +kernel : pins 146 116 = some (9, 119, 3, 1, [])) (v := c) rfl
      have h : prun n15 146 119 [(3, .int w116), (0, .ref t), (1, .ref (A k)), (2, .int i)] [] s113 = some x := h
      obtain ⟨n16, l16, h⟩ := u_go h (by decide +kernel : pins 146 119 = some (20, 122, 0, ((99 : Nat) : Int), []))
      have h := prun_lv h (lv' := [(3, .int w116), (0, .ref t), (1, .ref (A k)), (2, .int i)]) (lvLe.cons (lvLe.cons (lvLe.cons (lvLe.cons lvLe.nil rfl) rfl) rfl) rfl) (by decide : ([3, 0, 1, 2] : List Nat).Nodup) (by decide : ([3, 0, 1, 2] : List Nat).Nodup)
      have g : (gI (vw t A s113) 53 0).toInt = (gI (vw t A σ) 53 0).toInt + 1 := by rw [g113, i112]
      obtain ⟨y1, y2, y3, y4⟩ := ih n16 (by omega) _ _ x S113.1 trivial h
      exact ⟨y1, S113.tr y2, fun j q h1 h2 h3 h4 h5 => (y3 j q h1 h2 h3 h4 (fun e => h5 ⟨e.1, by omega⟩)).trans (p113 j q h1 h5), by omega⟩
theorem pc_pw1 {t : Nat} {A : Nat → Nat} {k : Nat} {i : Int32} (hk : isRw k = true) : ∀ (n : Nat) (c : Int32) (σ : ps) (x : Option Value × ps), Wld t A σ → (True) → prun n 146 2 [(3, .int c), (0, .ref t), (1, .ref (A k)), (2, .int i)] [] σ = some x → x.1 = none ∧ SP t A σ x.2 ∧ (∀ j q : Nat, ¬ j = 53 → ¬ j = 54 → ¬ j = 55 → ¬ j = 56 → ¬ (j = 52 ∧ (gI (vw t A σ) 53 0).toInt ≤ (q : Int)) → vw t A x.2 j q = vw t A σ j q) ∧ (gI (vw t A σ) 53 0).toInt ≤ (gI (vw t A x.2) 53 0).toInt := by
  intro n
  induction n using Nat.strongRecOn with
  | ind n ih =>
    intro c σ x W I h
    obtain ⟨n1, l1, h⟩ := v_il h (by decide +kernel : pins 146 2 = some (3, 3, 3, 0, [])) (v := c) rfl
    obtain ⟨n2, l2, h⟩ := v_al h (by decide +kernel : pins 146 3 = some (5, 4, 0, 0, [])) (v := t) rfl
    obtain ⟨n3, w4, l3, e4, h⟩ := w_fi (k := 55) W h (by decide +kernel : pins 146 4 = some (22, 7, 13, 55, [])) (by decide)
    obtain ⟨n4, l4, ⟨c7, h⟩ | ⟨c7, h⟩⟩ := u_ic3 h (by decide +kernel : pins 146 7 = some (17, 10, 3, ((48 : Nat) : Int), []))
    · obtain ⟨n5, l5, h⟩ := v_al h (by decide +kernel : pins 146 48 = some (5, 49, 0, 0, [])) (v := t) rfl
      obtain ⟨n6, w49, l6, e49, h⟩ := w_fi (k := 53) W h (by decide +kernel : pins 146 49 = some (22, 52, 13, 53, [])) (by decide)
      obtain ⟨n7, w52, l7, ⟨e52, i52⟩, h⟩ := u_ic h (by decide +kernel : pins 146 52 = some (0, 55, 128, 0, [])) (by decide)
      obtain ⟨n8, l8, ⟨c55, h⟩ | ⟨c55, h⟩⟩ := u_ic3 h (by decide +kernel : pins 146 55 = some (17, 58, 3, ((97 : Nat) : Int), []))
      · obtain ⟨n9, w97, l9, ⟨e97, i97⟩, h⟩ := u_ic h (by decide +kernel : pins 146 97 = some (0, 98, 0, 0, [])) (by decide)
        obtain ⟨n10, l10, h⟩ := v_is h (by decide +kernel : pins 146 98 = some (6, 99, 3, 0, []))
        have h : prun n10 146 99 [(3, .int w97), (0, .ref t), (1, .ref (A k)), (2, .int i)] [] σ = some x := h
        have h := prun_lv h (lv' := [(3, .int w97), (0, .ref t), (1, .ref (A k)), (2, .int i)]) (lvLe.cons (lvLe.cons (lvLe.cons (lvLe.cons lvLe.nil rfl) rfl) rfl) rfl) (by decide : ([3, 0, 1, 2] : List Nat).Nodup) (by decide : ([3, 0, 1, 2] : List Nat).Nodup)
        exact pc_pw2 hk _ _ _ x W trivial h
      · obtain ⟨n11, l11, h⟩ := v_al h (by decide +kernel : pins 146 58 = some (5, 59, 0, 0, [])) (v := t) rfl
        obtain ⟨n12, l12, h⟩ := w_row (k := 54) W h (by decide +kernel : pins 146 59 = some (22, 62, 13, 54, [])) (by decide)
        obtain ⟨n13, l13, h⟩ := v_al h (by decide +kernel : pins 146 62 = some (5, 63, 0, 0, [])) (v := t) rfl
        obtain ⟨n14, w63, l14, e63, h⟩ := w_fi (k := 55) W h (by decide +kernel : pins 146 63 = some (22, 66, 13, 55, [])) (by decide)
        obtain ⟨n15, l15, h⟩ := v_al h (by decide +kernel : pins 146 66 = some (5, 67, 0, 0, [])) (v := t) rfl
        obtain ⟨n16, w67, l16, e67, h⟩ := w_fi (k := 53) W h (by decide +kernel : pins 146 67 = some (22, 70, 13, 53, [])) (by decide)
        obtain ⟨n17, s70, l17, b70, S70, u70, h⟩ := w_iast W h (by decide +kernel : pins 146 70 = some (28, 71, 0, 0, [])) (by decide)
        obtain ⟨n18, l18, h⟩ := v_al h (by decide +kernel : pins 146 71 = some (5, 72, 1, 0, [])) (v := (A k)) rfl
        obtain ⟨n19, l19, h⟩ := v_il h (by decide +kernel : pins 146 72 = some (3, 73, 2, 0, [])) (v := i) rfl
        obtain ⟨n20, l20, h⟩ := v_al h (by decide +kernel : pins 146 73 = some (5, 74, 0, 0, [])) (v := t) rfl
        obtain ⟨n21, l21, h⟩ := w_row (k := 56) S70.1 h (by decide +kernel : pins 146 74 = some (22, 77, 13, 56, [])) (by decide)
        obtain ⟨n22, w77, l22, ⟨e77, i77⟩, h⟩ := u_ic h (by decide +kernel : pins 146 77 = some (0, 79, 16, 0, [])) (by decide)
        obtain ⟨n23, l23, h⟩ := v_al h (by decide +kernel : pins 146 79 = some (5, 80, 0, 0, [])) (v := t) rfl
        obtain ⟨n24, w80, l24, e80, h⟩ := w_fi (k := 55) S70.1 h (by decide +kernel : pins 146 80 = some (22, 83, 13, 55, [])) (by decide)
        obtain ⟨n25, w83, l25, e83, h⟩ := u_mul h (by decide +kernel : pins 146 83 = some (10, 84, 2, 0, []))
        obtain ⟨n26, r84, s84, l26, h84, h⟩ := pinv_call h (by decide +kernel : pins 146 84 = some (36, 87, 142, 1, [4]))
        have h84 : prun n26 142 0 (lv_args 0 [.ref (A k), .int i, .ref (A 56), .int w83]) [] s70 = some (r84, s84) := h84
        obtain ⟨er84, S84, f84⟩ := pc_copy S70.1 h84 hk (by decide)
        have er84 : r84 = none := er84
        subst er84
        try dsimp only at S84
        try dsimp only at f84
        have h : prun n26 146 87 [(3, .int c), (0, .ref t), (1, .ref (A k)), (2, .int i)] [] s84 = some x := h
        obtain ⟨n27, l27, h⟩ := v_al h (by decide +kernel : pins 146 87 = some (5, 88, 0, 0, [])) (v := t) rfl
        obtain ⟨n28, l28, h⟩ := v_dup h (by decide +kernel : pins 146 88 = some (34, 89, 0, 0, []))
        obtain ⟨n29, w89, l29, e89, h⟩ := w_fi (k := 55) S84.1 h (by decide +kernel : pins 146 89 = some (22, 92, 13, 55, [])) (by decide)
        obtain ⟨n30, w92, l30, ⟨e92, i92⟩, h⟩ := u_ic h (by decide +kernel : pins 146 92 = some (0, 93, 1, 0, [])) (by decide)
        obtain ⟨n31, w93, l31, e93, h⟩ := u_add h (by decide +kernel : pins 146 93 = some (10, 94, 0, 0, []))
        obtain ⟨n32, s94, l32, S94, u94, h⟩ := w_put (k := 55) S84.1 h (by decide +kernel : pins 146 94 = some (23, 97, 13, 55, [])) (by decide)
        obtain ⟨n33, w97, l33, ⟨e97, i97⟩, h⟩ := u_ic h (by decide +kernel : pins 146 97 = some (0, 98, 0, 0, [])) (by decide)
        obtain ⟨n34, l34, h⟩ := v_is h (by decide +kernel : pins 146 98 = some (6, 99, 3, 0, []))
        have h : prun n34 146 99 [(3, .int w97), (0, .ref t), (1, .ref (A k)), (2, .int i)] [] s94 = some x := h
        have h := prun_lv h (lv' := [(3, .int w97), (0, .ref t), (1, .ref (A k)), (2, .int i)]) (lvLe.cons (lvLe.cons (lvLe.cons (lvLe.cons lvLe.nil rfl) rfl) rfl) rfl) (by decide : ([3, 0, 1, 2] : List Nat).Nodup) (by decide : ([3, 0, 1, 2] : List Nat).Nodup)
        obtain ⟨y1, y2, y3, y4⟩ := pc_pw2 hk _ _ _ x S94.1 trivial h
        have z : ∀ j q, ¬ j = 54 → ¬ j = 55 → ¬ j = 56 → vw t A s94 j q = vw t A σ j q := fun j q h2 h3 h4 => by rw [u94, up_ne h3, f84 j q h4, u70, up_ne h2]
        have z53 : gI (vw t A s94) 53 0 = gI (vw t A σ) 53 0 := by unfold gI; rw [z 53 0 (by decide) (by decide) (by decide)]
        rw [z53] at y3 y4
        exact ⟨y1, ((S70.tr S84).tr S94).tr y2, fun j q h1 h2 h3 h4 h5 => (y3 j q h1 h2 h3 h4 h5).trans (z j q h2 h3 h4), y4⟩
    · obtain ⟨n35, l35, h⟩ := v_al h (by decide +kernel : pins 146 10 = some (5, 11, 1, 0, [])) (v := (A k)) rfl
      obtain ⟨n36, l36, h⟩ := v_il h (by decide +kernel : pins 146 11 = some (3, 12, 2, 0, [])) (v := i) rfl
      obtain ⟨n37, l37, h⟩ := v_al h (by decide +kernel : pins 146 12 = some (5, 13, 0, 0, [])) (v := t) rfl
      obtain ⟨n38, l38, h⟩ := w_row (k := 56) W h (by decide +kernel : pins 146 13 = some (22, 16, 13, 56, [])) (by decide)
      obtain ⟨n39, w16, l39, ⟨e16, i16⟩, h⟩ := u_ic h (by decide +kernel : pins 146 16 = some (0, 18, 16, 0, [])) (by decide)
      obtain ⟨n40, l40, h⟩ := v_il h (by decide +kernel : pins 146 18 = some (3, 19, 3, 0, [])) (v := c) rfl
      obtain ⟨n41, w19, l41, e19, h⟩ := u_mul h (by decide +kernel : pins 146 19 = some (10, 20, 2, 0, []))
      obtain ⟨n42, r20, s20, l42, h20, h⟩ := pinv_call h (by decide +kernel : pins 146 20 = some (36, 23, 141, 1, [4]))
      have h20 : prun n42 141 0 (lv_args 0 [.ref (A k), .int i, .ref (A 56), .int w19]) [] σ = some (r20, s20) := h20
      obtain ⟨es20, w20, er20, f20⟩ := pc_same W h20 hk (by decide)
      have er20 : r20 = some (.int w20) := er20
      have et20 : s20 = σ := es20
      rw [et20] at h
      subst er20
      have h : prun n42 146 23 [(3, .int c), (0, .ref t), (1, .ref (A k)), (2, .int i)] [.int w20] σ = some x := h
      obtain ⟨n43, l43, ⟨c23, h⟩ | ⟨c23, h⟩⟩ := u_if0 h (by decide +kernel : pins 146 23 = some (16, 26, 0, ((42 : Nat) : Int), []))
      · obtain ⟨n44, w42, l44, e42, h⟩ := u_inc h (by decide +kernel : pins 146 42 = some (9, 45, 3, 1, [])) (v := c) rfl
        have h : prun n44 146 45 [(3, .int w42), (0, .ref t), (1, .ref (A k)), (2, .int i)] [] σ = some x := h
        obtain ⟨n45, l45, h⟩ := u_go h (by decide +kernel : pins 146 45 = some (20, 48, 0, ((2 : Nat) : Int), []))
        have h := prun_lv h (lv' := [(3, .int w42), (0, .ref t), (1, .ref (A k)), (2, .int i)]) (lvLe.cons (lvLe.cons (lvLe.cons (lvLe.cons lvLe.nil rfl) rfl) rfl) rfl) (by decide : ([3, 0, 1, 2] : List Nat).Nodup) (by decide : ([3, 0, 1, 2] : List Nat).Nodup)
        exact ih n45 (by omega) _ _ x W trivial h
      · obtain ⟨n46, l46, h⟩ := v_al h (by decide +kernel : pins 146 26 = some (5, 27, 0, 0, [])) (v := t) rfl
        obtain ⟨n47, w27, l47, ⟨e27, i27⟩, h⟩ := u_ic h (by decide +kernel : pins 146 27 = some (0, 30, 128, 0, [])) (by decide)
        obtain ⟨n48, l48, h⟩ := v_al h (by decide +kernel : pins 146 30 = some (5, 31, 0, 0, [])) (v := t) rfl
        obtain ⟨n49, l49, h⟩ := w_row (k := 54) W h (by decide +kernel : pins 146 31 = some (22, 34, 13, 54, [])) (by decide)
        obtain ⟨n50, l50, h⟩ := v_il h (by decide +kernel : pins 146 34 = some (3, 35, 3, 0, [])) (v := c) rfl
        obtain ⟨n51, w35, l51, b35, e35, h⟩ := w_iald W h (by decide +kernel : pins 146 35 = some (24, 36, 0, 0, [])) (by decide)
        obtain ⟨n52, w36, l52, e36, h⟩ := u_add h (by decide +kernel : pins 146 36 = some (10, 37, 0, 0, []))
        obtain ⟨n53, w37, l53, ⟨e37, i37⟩, h⟩ := u_ic h (by decide +kernel : pins 146 37 = some (0, 38, 1, 0, [])) (by decide)
        obtain ⟨n54, r38, s38, l54, h38, h⟩ := pinv_call h (by decide +kernel : pins 146 38 = some (36, 41, 145, 0, [3]))
        have h38 : prun n54 145 0 (lv_args 0 [.ref t, .int w36, .int w37]) [] σ = some (r38, s38) := h38
        obtain ⟨er38, S38, p38, g38, _⟩ := pc_put W h38 (by rw [e37]; decide)
        have er38 : r38 = none := er38
        subst er38
        try dsimp only at S38
        try dsimp only at p38
        try dsimp only at g38
        have h : prun n54 146 41 [(3, .int c), (0, .ref t), (1, .ref (A k)), (2, .int i)] [] s38 = some x := h
        have ex := u_ret37 h (by decide +kernel : pins 146 41 = some (37, 42, 0, 0, []))
        subst ex
        refine ⟨rfl, S38, fun j q h1 _ _ _ h5 => p38 j q h1 h5, ?_⟩
        have g : (gI (vw t A s38) 53 0).toInt = (gI (vw t A σ) 53 0).toInt + 1 := by rw [g38, i37]
        show _ ≤ (gI (vw t A s38) 53 0).toInt
        omega
theorem pc_putWord {t n : Nat} {A : Nat → Nat} {k : Nat} {i : Int32} {σ : ps} {x : Option Value × ps} (W : Wld t A σ) (h : prun n 146 0 (lv_args 0 [.ref t, .ref (A k), .int i]) [] σ = some x) (hk : isRw k = true) : x.1 = none ∧ SP t A σ x.2 ∧ (∀ j q : Nat, ¬ j = 53 → ¬ j = 54 → ¬ j = 55 → ¬ j = 56 → ¬ (j = 52 ∧ (gI (vw t A σ) 53 0).toInt ≤ (q : Int)) → vw t A x.2 j q = vw t A σ j q) ∧ (gI (vw t A σ) 53 0).toInt ≤ (gI (vw t A x.2) 53 0).toInt := by
  have h : prun n 146 0 [(0, .ref t), (1, .ref (A k)), (2, .int i)] [] σ = some x := h
  obtain ⟨n1, w0, l1, ⟨e0, i0⟩, h⟩ := u_ic h (by decide +kernel : pins 146 0 = some (0, 1, 0, 0, [])) (by decide)
  obtain ⟨n2, l2, h⟩ := v_is h (by decide +kernel : pins 146 1 = some (6, 2, 3, 0, []))
  have h : prun n2 146 2 [(3, .int w0), (0, .ref t), (1, .ref (A k)), (2, .int i)] [] σ = some x := h
  have h := prun_lv h (lv' := [(3, .int w0), (0, .ref t), (1, .ref (A k)), (2, .int i)]) (lvLe.cons (lvLe.cons (lvLe.cons (lvLe.cons lvLe.nil rfl) rfl) rfl) rfl) (by decide : ([3, 0, 1, 2] : List Nat).Nodup) (by decide : ([3, 0, 1, 2] : List Nat).Nodup)
  exact pc_pw1 hk _ _ _ x W trivial h
