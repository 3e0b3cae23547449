theorem lw_rng (x : Int64) : -9223372036854775808 ≤ x.toInt ∧ x.toInt ≤ 9223372036854775807 := by
  have h1 := x.le_toInt
  have h2 := x.toInt_lt
  constructor <;> omega
theorem lw_add {x y : Int64} (h1 : -9223372036854775808 ≤ x.toInt + y.toInt) (h2 : x.toInt + y.toInt ≤ 9223372036854775807) : (x + y).toInt = x.toInt + y.toInt := by
  rw [Int64.toInt_add]
  exact Int.bmod_eq_of_le (by omega) (by omega)
theorem lw_sub {x y : Int64} (h1 : -9223372036854775808 ≤ x.toInt - y.toInt) (h2 : x.toInt - y.toInt ≤ 9223372036854775807) : (x - y).toInt = x.toInt - y.toInt := by
  rw [Int64.toInt_sub]
  exact Int.bmod_eq_of_le (by omega) (by omega)
theorem lw_mul {x y : Int64} (h1 : -9223372036854775808 ≤ x.toInt * y.toInt) (h2 : x.toInt * y.toInt ≤ 9223372036854775807) : (x * y).toInt = x.toInt * y.toInt := by
  rw [Int64.toInt_mul]
  exact Int.bmod_eq_of_le (by omega) (by omega)
theorem lw_ofInt {n : Int} (h1 : -9223372036854775808 ≤ n) (h2 : n ≤ 9223372036854775807) : (Int64.ofInt n).toInt = n := Int64.toInt_ofInt_of_le (by omega) (by omega)
theorem lw_div {x y : Int64} (hy : 0 < y.toInt) : (x / y).toInt = x.toInt.tdiv y.toInt := Int64.toInt_div_of_ne_right _ _ (fun h => by rw [h] at hy; revert hy; decide)
theorem lw_rem {x y : Int64} (hy : 0 < y.toInt) : (x - x / y * y).toInt = x.toInt.tmod y.toInt := by
  have hr := lw_rng x
  have h1 := lw_div (x := x) hy
  have h2 := Int.tdiv_mul_add_tmod x.toInt y.toInt
  have h3 : -9223372036854775808 ≤ x.toInt.tdiv y.toInt * y.toInt ∧ x.toInt.tdiv y.toInt * y.toInt ≤ 9223372036854775807 := by
    by_cases hx : 0 ≤ x.toInt
    · have a1 := Int.tmod_nonneg y.toInt hx
      have a2 : 0 ≤ x.toInt.tdiv y.toInt * y.toInt := Int.mul_nonneg ((n_tdiv hy).1 hx).1 (by omega)
      omega
    · have b1 : x.toInt.tdiv y.toInt * y.toInt ≤ 0 := Int.mul_nonpos_of_nonpos_of_nonneg ((n_tdiv hy).2 (by omega)).2 (by omega)
      have e : x.toInt.tmod y.toInt = -((-x.toInt).tmod y.toInt) := by rw [Int.neg_tmod]; omega
      have b2 := Int.tmod_nonneg (a := -x.toInt) y.toInt (by omega)
      omega
  have h4 : (x / y * y).toInt = x.toInt.tdiv y.toInt * y.toInt := by
    rw [lw_mul (by rw [h1]; exact h3.1) (by rw [h1]; exact h3.2), h1]
  have h5 : -9223372036854775808 ≤ x.toInt - (x / y * y).toInt ∧ x.toInt - (x / y * y).toInt ≤ 9223372036854775807 := by
    rw [h4]
    have a1 := Int.tmod_lt_of_pos x.toInt hy
    have a2 := Int.lt_tmod_of_pos x.toInt hy
    have := lw_rng y
    omega
  rw [lw_sub h5.1 h5.2, h4]
  omega
theorem lw_i2l (x : Int32) : x.toInt64.toInt = x.toInt := Int32.toInt_toInt64 x
theorem lw_l2i {x : Int64} (h1 : -2147483648 ≤ x.toInt) (h2 : x.toInt ≤ 2147483647) : x.toInt32.toInt = x.toInt := by
  rw [Int64.toInt_toInt32]
  exact Int.bmod_eq_of_le (by omega) (by omega)
theorem pc_small {t n : Nat} {A : Nat → Nat} {c : Int32} {σ : ps} {x : Option Value × ps} (W : Wld t A σ) (h : prun n 138 0 (lv_args 0 [.int c]) [] σ = some x) : x.2 = σ ∧ ∃ w : Int32, x.1 = some (.int w) ∧ (w.toInt = 40 ↔ c.toInt = 40) := by
  have h : prun n 138 0 [(0, .int c)] [] σ = some x := h
  obtain ⟨n1, l1, h⟩ := v_il h (by decide +kernel : pins 138 0 = some (3, 1, 0, 0, [])) (v := c) rfl
  obtain ⟨n2, w1, l2, ⟨e1, i1⟩, h⟩ := u_ic h (by decide +kernel : pins 138 1 = some (0, 3, 65, 0, [])) (by decide)
  obtain ⟨n3, l3, ⟨c3, h⟩ | ⟨c3, h⟩⟩ := u_ic2 h (by decide +kernel : pins 138 3 = some (17, 6, 2, ((19 : Nat) : Int), []))
  · obtain ⟨n4, l4, h⟩ := v_il h (by decide +kernel : pins 138 19 = some (3, 20, 0, 0, [])) (v := c) rfl
    have ex := u_ret38 h (by decide +kernel : pins 138 20 = some (38, 21, 0, 0, []))
    subst ex
    exact ⟨rfl, _, rfl, Iff.rfl⟩
  · obtain ⟨n6, l6, h⟩ := v_il h (by decide +kernel : pins 138 6 = some (3, 7, 0, 0, [])) (v := c) rfl
    obtain ⟨n7, w7, l7, ⟨e7, i7⟩, h⟩ := u_ic h (by decide +kernel : pins 138 7 = some (0, 9, 90, 0, [])) (by decide)
    obtain ⟨n8, l8, ⟨c9, h⟩ | ⟨c9, h⟩⟩ := u_ic4 h (by decide +kernel : pins 138 9 = some (17, 12, 4, ((19 : Nat) : Int), []))
    · obtain ⟨n9, l9, h⟩ := v_il h (by decide +kernel : pins 138 19 = some (3, 20, 0, 0, [])) (v := c) rfl
      have ex := u_ret38 h (by decide +kernel : pins 138 20 = some (38, 21, 0, 0, []))
      subst ex
      exact ⟨rfl, _, rfl, Iff.rfl⟩
    · obtain ⟨n11, l11, h⟩ := v_il h (by decide +kernel : pins 138 12 = some (3, 13, 0, 0, [])) (v := c) rfl
      obtain ⟨n12, w13, l12, ⟨e13, i13⟩, h⟩ := u_ic h (by decide +kernel : pins 138 13 = some (0, 15, 32, 0, [])) (by decide)
      obtain ⟨n13, w15, l13, e15, h⟩ := u_add h (by decide +kernel : pins 138 15 = some (10, 16, 0, 0, []))
      obtain ⟨n14, l14, h⟩ := u_go h (by decide +kernel : pins 138 16 = some (20, 19, 0, ((20 : Nat) : Int), []))
      have ex := u_ret38 h (by decide +kernel : pins 138 20 = some (38, 21, 0, 0, []))
      subst ex
      exact ⟨rfl, _, rfl, by have := addc e15 i13 (by omega) (by omega) (by decide) (by decide); omega⟩
theorem rk_le : ∀ k, k < 108 → (rk k).2 ≤ 160000 := by decide +kernel
theorem szR_le (k : Nat) : szR k ≤ 160000 := by
  unfold szR
  by_cases h : 40 + k < 108
  · have := rk_le (40 + k) h; omega
  · unfold rk
    rw [if_neg (by omega)]
    have hl : rk2.length = 44 := by decide +kernel
    rw [List.getD_eq_getElem?_getD, List.getElem?_eq_none (by omega)]
    decide
theorem pc_alike_l {t : Nat} {A : Nat → Nat} {k1 k2 : Nat} {i j : Int32} (hk1 : isRw k1 = true) (hk2 : isRw k2 = true) (hi : 0 ≤ i.toInt ∧ i.toInt ≤ 100000) (hj : 0 ≤ j.toInt ∧ j.toInt ≤ 100000) : ∀ (n : Nat) (c is : Int32) (σ : ps) (x : Option Value × ps), Wld t A σ → (1 ≤ c.toInt ∧ c.toInt ≤ 300000 ∧ (¬ is.toInt = 0 → gI (vw t A σ) k1 i.toNatClampNeg = gI (vw t A σ) k2 j.toNatClampNeg ∧ ∀ d : Nat, 1 ≤ d → (d : Int) < c.toInt → ((gI (vw t A σ) k1 (i.toNatClampNeg + d)).toInt = 40 ↔ (gI (vw t A σ) k2 (j.toNatClampNeg + d)).toInt = 40))) → prun n 140 19 [(5, .int c), (4, .int is), (0, .ref (A k1)), (1, .int i), (2, .ref (A k2)), (3, .int j)] [] σ = some x → x.2 = σ ∧ ∃ w : Int32, x.1 = some (.int w) ∧ (¬ w.toInt = 0 → gI (vw t A σ) k1 i.toNatClampNeg = gI (vw t A σ) k2 j.toNatClampNeg ∧ ∀ d : Nat, 1 ≤ d → (d : Int) ≤ (gI (vw t A σ) k1 i.toNatClampNeg).toInt → ((gI (vw t A σ) k1 (i.toNatClampNeg + d)).toInt = 40 ↔ (gI (vw t A σ) k2 (j.toNatClampNeg + d)).toInt = 40)) := by
  intro n
  induction n using Nat.strongRecOn with
  | ind n ih =>
    intro c is σ x W I h
    obtain ⟨I1, I2, I3⟩ := I
    obtain ⟨n1, l1, h⟩ := v_il h (by decide +kernel : pins 140 19 = some (3, 21, 5, 0, [])) (v := c) rfl
    obtain ⟨n2, l2, h⟩ := v_al h (by decide +kernel : pins 140 21 = some (5, 22, 0, 0, [])) (v := (A k1)) rfl
    obtain ⟨n3, l3, h⟩ := v_il h (by decide +kernel : pins 140 22 = some (3, 23, 1, 0, [])) (v := i) rfl
    obtain ⟨n4, w23, l4, b23, e23, h⟩ := w_iald W h (by decide +kernel : pins 140 23 = some (24, 24, 0, 0, [])) hk1
    obtain ⟨n5, l5, ⟨c24, h⟩ | ⟨c24, h⟩⟩ := u_ic4 h (by decide +kernel : pins 140 24 = some (17, 27, 4, ((66 : Nat) : Int), []))
    · obtain ⟨n6, l6, h⟩ := v_il h (by decide +kernel : pins 140 66 = some (3, 68, 4, 0, [])) (v := is) rfl
      have ex := u_ret38 h (by decide +kernel : pins 140 68 = some (38, 69, 0, 0, []))
      subst ex
      refine ⟨rfl, _, rfl, fun h => ⟨(I3 h).1, fun d d1 d2 => (I3 h).2 d d1 ?_⟩⟩
      rw [← e23] at d2
      omega
    · obtain ⟨n8, l8, h⟩ := v_il h (by decide +kernel : pins 140 27 = some (3, 29, 4, 0, [])) (v := is) rfl
      obtain ⟨n9, l9, ⟨c29, h⟩ | ⟨c29, h⟩⟩ := u_if0 h (by decide +kernel : pins 140 29 = some (16, 32, 0, ((66 : Nat) : Int), []))
      · obtain ⟨n10, l10, h⟩ := v_il h (by decide +kernel : pins 140 66 = some (3, 68, 4, 0, [])) (v := is) rfl
        have ex := u_ret38 h (by decide +kernel : pins 140 68 = some (38, 69, 0, 0, []))
        subst ex
        exact ⟨rfl, _, rfl, fun h => absurd c29 h⟩
      · obtain ⟨n12, l12, h⟩ := v_al h (by decide +kernel : pins 140 32 = some (5, 33, 0, 0, [])) (v := (A k1)) rfl
        obtain ⟨n13, l13, h⟩ := v_il h (by decide +kernel : pins 140 33 = some (3, 34, 1, 0, [])) (v := i) rfl
        obtain ⟨n14, l14, h⟩ := v_il h (by decide +kernel : pins 140 34 = some (3, 36, 5, 0, [])) (v := c) rfl
        obtain ⟨n15, w36, l15, e36, h⟩ := u_add h (by decide +kernel : pins 140 36 = some (10, 37, 0, 0, []))
        obtain ⟨n16, w37, l16, b37, e37, h⟩ := w_iald W h (by decide +kernel : pins 140 37 = some (24, 38, 0, 0, [])) hk1
        obtain ⟨n17, r38, s38, l17, h38, h⟩ := pinv_call h (by decide +kernel : pins 140 38 = some (36, 41, 138, 1, [1]))
        have h38 : prun n17 138 0 (lv_args 0 [.int w37]) [] σ = some (r38, s38) := h38
        obtain ⟨es38, w38, er38, f38⟩ := pc_small W h38
        have er38 : r38 = some (.int w38) := er38
        have et38 : s38 = σ := es38
        rw [et38] at h
        subst er38
        have h : prun n17 140 41 [(5, .int c), (4, .int is), (0, .ref (A k1)), (1, .int i), (2, .ref (A k2)), (3, .int j)] [.int w38] σ = some x := h
        obtain ⟨n18, l18, h⟩ := v_al h (by decide +kernel : pins 140 41 = some (5, 42, 2, 0, [])) (v := (A k2)) rfl
        obtain ⟨n19, l19, h⟩ := v_il h (by decide +kernel : pins 140 42 = some (3, 43, 3, 0, [])) (v := j) rfl
        obtain ⟨n20, l20, h⟩ := v_il h (by decide +kernel : pins 140 43 = some (3, 45, 5, 0, [])) (v := c) rfl
        obtain ⟨n21, w45, l21, e45, h⟩ := u_add h (by decide +kernel : pins 140 45 = some (10, 46, 0, 0, []))
        obtain ⟨n22, w46, l22, b46, e46, h⟩ := w_iald W h (by decide +kernel : pins 140 46 = some (24, 47, 0, 0, [])) hk2
        obtain ⟨n23, r47, s47, l23, h47, h⟩ := pinv_call h (by decide +kernel : pins 140 47 = some (36, 50, 138, 1, [1]))
        have h47 : prun n23 138 0 (lv_args 0 [.int w46]) [] σ = some (r47, s47) := h47
        obtain ⟨es47, w47, er47, f47⟩ := pc_small W h47
        have er47 : r47 = some (.int w47) := er47
        have et47 : s47 = σ := es47
        rw [et47] at h
        subst er47
        have h : prun n23 140 50 [(5, .int c), (4, .int is), (0, .ref (A k1)), (1, .int i), (2, .ref (A k2)), (3, .int j)] [.int w47, .int w38] σ = some x := h
        obtain ⟨n24, l24, ⟨c50, h⟩ | ⟨c50, h⟩⟩ := u_ic1 h (by decide +kernel : pins 140 50 = some (17, 53, 1, ((57 : Nat) : Int), []))
        · obtain ⟨n25, w57, l25, ⟨e57, i57⟩, h⟩ := u_ic h (by decide +kernel : pins 140 57 = some (0, 58, 0, 0, [])) (by decide)
          obtain ⟨n26, l26, h⟩ := v_is h (by decide +kernel : pins 140 58 = some (6, 60, 4, 0, []))
          have h : prun n26 140 60 [(4, .int w57), (5, .int c), (0, .ref (A k1)), (1, .int i), (2, .ref (A k2)), (3, .int j)] [] σ = some x := h
          obtain ⟨n27, w60, l27, e60, h⟩ := u_inc h (by decide +kernel : pins 140 60 = some (9, 63, 5, 1, [])) (v := c) rfl
          have h : prun n27 140 63 [(5, .int w60), (4, .int w57), (0, .ref (A k1)), (1, .int i), (2, .ref (A k2)), (3, .int j)] [] σ = some x := h
          obtain ⟨n28, l28, h⟩ := u_go h (by decide +kernel : pins 140 63 = some (20, 66, 0, ((19 : Nat) : Int), []))
          have h := prun_lv h (lv' := [(5, .int w60), (4, .int w57), (0, .ref (A k1)), (1, .int i), (2, .ref (A k2)), (3, .int j)]) (lvLe.cons (lvLe.cons (lvLe.cons (lvLe.cons (lvLe.cons (lvLe.cons lvLe.nil rfl) rfl) rfl) rfl) rfl) rfl) (by decide : ([5, 4, 0, 1, 2, 3] : List Nat).Nodup) (by decide : ([5, 4, 0, 1, 2, 3] : List Nat).Nodup)
          have b37 : 0 ≤ w36.toInt ∧ w36.toInt < szR k1 := b37
          have hc : c.toInt < 200000 := by have := (szR_le k1); have q := addc e36 rfl (by omega) (by omega) (by omega) (by omega); omega
          have q60 : w60.toInt = c.toInt + 1 := addc e60 (by decide : (Int32.ofInt 1).toInt = 1) (by omega) (by omega) (by decide) (by decide)
          have q36 : w36.toInt = i.toInt + c.toInt := addc e36 rfl (by omega) (by omega) (by omega) (by omega)
          have q45 : w45.toInt = j.toInt + c.toInt := addc e45 rfl (by omega) (by omega) (by omega) (by omega)
          have n36 : w36.toNatClampNeg = i.toNatClampNeg + c.toNatClampNeg := by rw [clampc q36 (by omega)]; show _ = i.toInt.toNat + c.toInt.toNat; omega
          have n45 : w45.toNatClampNeg = j.toNatClampNeg + c.toNatClampNeg := by rw [clampc q45 (by omega)]; show _ = j.toInt.toNat + c.toInt.toNat; omega
          exact ih n28 (by omega) _ _ σ x W ⟨by omega, by omega, fun h => absurd i57 h⟩ h
        · obtain ⟨n29, w53, l29, ⟨e53, i53⟩, h⟩ := u_ic h (by decide +kernel : pins 140 53 = some (0, 54, 1, 0, [])) (by decide)
          obtain ⟨n30, l30, h⟩ := u_go h (by decide +kernel : pins 140 54 = some (20, 57, 0, ((58 : Nat) : Int), []))
          obtain ⟨n31, l31, h⟩ := v_is h (by decide +kernel : pins 140 58 = some (6, 60, 4, 0, []))
          have h : prun n31 140 60 [(4, .int w53), (5, .int c), (0, .ref (A k1)), (1, .int i), (2, .ref (A k2)), (3, .int j)] [] σ = some x := h
          obtain ⟨n32, w60, l32, e60, h⟩ := u_inc h (by decide +kernel : pins 140 60 = some (9, 63, 5, 1, [])) (v := c) rfl
          have h : prun n32 140 63 [(5, .int w60), (4, .int w53), (0, .ref (A k1)), (1, .int i), (2, .ref (A k2)), (3, .int j)] [] σ = some x := h
          obtain ⟨n33, l33, h⟩ := u_go h (by decide +kernel : pins 140 63 = some (20, 66, 0, ((19 : Nat) : Int), []))
          have h := prun_lv h (lv' := [(5, .int w60), (4, .int w53), (0, .ref (A k1)), (1, .int i), (2, .ref (A k2)), (3, .int j)]) (lvLe.cons (lvLe.cons (lvLe.cons (lvLe.cons (lvLe.cons (lvLe.cons lvLe.nil rfl) rfl) rfl) rfl) rfl) rfl) (by decide : ([5, 4, 0, 1, 2, 3] : List Nat).Nodup) (by decide : ([5, 4, 0, 1, 2, 3] : List Nat).Nodup)
          have b37 : 0 ≤ w36.toInt ∧ w36.toInt < szR k1 := b37
          have hc : c.toInt < 200000 := by have := (szR_le k1); have q := addc e36 rfl (by omega) (by omega) (by omega) (by omega); omega
          have q60 : w60.toInt = c.toInt + 1 := addc e60 (by decide : (Int32.ofInt 1).toInt = 1) (by omega) (by omega) (by decide) (by decide)
          have q36 : w36.toInt = i.toInt + c.toInt := addc e36 rfl (by omega) (by omega) (by omega) (by omega)
          have q45 : w45.toInt = j.toInt + c.toInt := addc e45 rfl (by omega) (by omega) (by omega) (by omega)
          have n36 : w36.toNatClampNeg = i.toNatClampNeg + c.toNatClampNeg := by rw [clampc q36 (by omega)]; show _ = i.toInt.toNat + c.toInt.toNat; omega
          have n45 : w45.toNatClampNeg = j.toNatClampNeg + c.toNatClampNeg := by rw [clampc q45 (by omega)]; show _ = j.toInt.toNat + c.toInt.toNat; omega
          refine ih n33 (by omega) _ _ σ x W ⟨by omega, by omega, fun _ => ⟨(I3 c29).1, fun d d1 d2 => ?_⟩⟩ h
          by_cases e : (d : Int) = c.toInt
          · have ed : d = c.toNatClampNeg := by show d = c.toInt.toNat; omega
            rw [ed, ← n36, ← n45, ← e37, ← e46, ← f38, ← f47, c50]
          · exact (I3 c29).2 d d1 (by omega)
theorem pc_alike {t n : Nat} {A : Nat → Nat} {k1 k2 : Nat} {i j : Int32} {σ : ps} {x : Option Value × ps} (W : Wld t A σ) (h : prun n 140 0 (lv_args 0 [.ref (A k1), .int i, .ref (A k2), .int j]) [] σ = some x) (hk1 : isRw k1 = true) (hk2 : isRw k2 = true) (hi : 0 ≤ i.toInt ∧ i.toInt ≤ 100000) (hj : 0 ≤ j.toInt ∧ j.toInt ≤ 100000) : x.2 = σ ∧ ∃ w : Int32, x.1 = some (.int w) ∧ (¬ w.toInt = 0 → gI (vw t A σ) k1 i.toNatClampNeg = gI (vw t A σ) k2 j.toNatClampNeg ∧ ∀ d : Nat, 1 ≤ d → (d : Int) ≤ (gI (vw t A σ) k1 i.toNatClampNeg).toInt → ((gI (vw t A σ) k1 (i.toNatClampNeg + d)).toInt = 40 ↔ (gI (vw t A σ) k2 (j.toNatClampNeg + d)).toInt = 40)) := by
  have h : prun n 140 0 [(0, .ref (A k1)), (1, .int i), (2, .ref (A k2)), (3, .int j)] [] σ = some x := h
  obtain ⟨n1, l1, h⟩ := v_al h (by decide +kernel : pins 140 0 = some (5, 1, 0, 0, [])) (v := (A k1)) rfl
  obtain ⟨n2, l2, h⟩ := v_il h (by decide +kernel : pins 140 1 = some (3, 2, 1, 0, [])) (v := i) rfl
  obtain ⟨n3, w2, l3, b2, e2, h⟩ := w_iald W h (by decide +kernel : pins 140 2 = some (24, 3, 0, 0, [])) hk1
  obtain ⟨n4, l4, h⟩ := v_al h (by decide +kernel : pins 140 3 = some (5, 4, 2, 0, [])) (v := (A k2)) rfl
  obtain ⟨n5, l5, h⟩ := v_il h (by decide +kernel : pins 140 4 = some (3, 5, 3, 0, [])) (v := j) rfl
  obtain ⟨n6, w5, l6, b5, e5, h⟩ := w_iald W h (by decide +kernel : pins 140 5 = some (24, 6, 0, 0, [])) hk2
  obtain ⟨n7, l7, ⟨c6, h⟩ | ⟨c6, h⟩⟩ := u_ic1 h (by decide +kernel : pins 140 6 = some (17, 9, 1, ((13 : Nat) : Int), []))
  · obtain ⟨n8, w13, l8, ⟨e13, i13⟩, h⟩ := u_ic h (by decide +kernel : pins 140 13 = some (0, 14, 0, 0, [])) (by decide)
    obtain ⟨n9, l9, h⟩ := v_is h (by decide +kernel : pins 140 14 = some (6, 16, 4, 0, []))
    have h : prun n9 140 16 [(4, .int w13), (0, .ref (A k1)), (1, .int i), (2, .ref (A k2)), (3, .int j)] [] σ = some x := h
    obtain ⟨n10, w16, l10, ⟨e16, i16⟩, h⟩ := u_ic h (by decide +kernel : pins 140 16 = some (0, 17, 1, 0, [])) (by decide)
    obtain ⟨n11, l11, h⟩ := v_is h (by decide +kernel : pins 140 17 = some (6, 19, 5, 0, []))
    have h : prun n11 140 19 [(5, .int w16), (4, .int w13), (0, .ref (A k1)), (1, .int i), (2, .ref (A k2)), (3, .int j)] [] σ = some x := h
    have h := prun_lv h (lv' := [(5, .int w16), (4, .int w13), (0, .ref (A k1)), (1, .int i), (2, .ref (A k2)), (3, .int j)]) (lvLe.cons (lvLe.cons (lvLe.cons (lvLe.cons (lvLe.cons (lvLe.cons lvLe.nil rfl) rfl) rfl) rfl) rfl) rfl) (by decide : ([5, 4, 0, 1, 2, 3] : List Nat).Nodup) (by decide : ([5, 4, 0, 1, 2, 3] : List Nat).Nodup)
    exact pc_alike_l hk1 hk2 hi hj _ _ _ _ x W ⟨by rw [i16]; decide, by rw [i16]; decide, fun h => absurd i13 h⟩ h
  · obtain ⟨n12, w9, l12, ⟨e9, i9⟩, h⟩ := u_ic h (by decide +kernel : pins 140 9 = some (0, 10, 1, 0, [])) (by decide)
    obtain ⟨n13, l13, h⟩ := u_go h (by decide +kernel : pins 140 10 = some (20, 13, 0, ((14 : Nat) : Int), []))
    obtain ⟨n14, l14, h⟩ := v_is h (by decide +kernel : pins 140 14 = some (6, 16, 4, 0, []))
    have h : prun n14 140 16 [(4, .int w9), (0, .ref (A k1)), (1, .int i), (2, .ref (A k2)), (3, .int j)] [] σ = some x := h
    obtain ⟨n15, w16, l15, ⟨e16, i16⟩, h⟩ := u_ic h (by decide +kernel : pins 140 16 = some (0, 17, 1, 0, [])) (by decide)
    obtain ⟨n16, l16, h⟩ := v_is h (by decide +kernel : pins 140 17 = some (6, 19, 5, 0, []))
    have h : prun n16 140 19 [(5, .int w16), (4, .int w9), (0, .ref (A k1)), (1, .int i), (2, .ref (A k2)), (3, .int j)] [] σ = some x := h
    have h := prun_lv h (lv' := [(5, .int w16), (4, .int w9), (0, .ref (A k1)), (1, .int i), (2, .ref (A k2)), (3, .int j)]) (lvLe.cons (lvLe.cons (lvLe.cons (lvLe.cons (lvLe.cons (lvLe.cons lvLe.nil rfl) rfl) rfl) rfl) rfl) rfl) (by decide : ([5, 4, 0, 1, 2, 3] : List Nat).Nodup) (by decide : ([5, 4, 0, 1, 2, 3] : List Nat).Nodup)
    refine pc_alike_l hk1 hk2 hi hj _ _ _ _ x W ⟨by rw [i16]; decide, by rw [i16]; decide, fun _ => ⟨?_, fun d d1 d2 => by omega⟩⟩ h
    rw [← e2, ← e5]
    exact Int32.toInt_inj.mp c6
def adr (V : Nat → Nat → Value) (h : Nat) : Int := (257 * (gI V 5 h).toInt + 4093 * (gI V 7 h).toInt).tmod 65024
theorem pc_address {t n : Nat} {A : Nat → Nat} {hh : Int32} {σ : ps} {x : Option Value × ps} (W : Wld t A σ) (h : prun n 148 0 (lv_args 0 [.ref t, .int hh]) [] σ = some x) : x.2 = σ ∧ ∃ w : Int32, x.1 = some (.int w) ∧ w.toInt = adr (vw t A σ) hh.toNatClampNeg := by
  have h : prun n 148 0 [(0, .ref t), (1, .int hh)] [] σ = some x := h
  obtain ⟨n1, w0, l1, e0, h⟩ := u_lc h (by decide +kernel : pins 148 0 = some (1, 3, 257, 0, []))
  have i0 : w0.toInt = 257 := by rw [e0]; decide
  obtain ⟨n2, l2, h⟩ := v_al h (by decide +kernel : pins 148 3 = some (5, 4, 0, 0, [])) (v := t) rfl
  obtain ⟨n3, l3, h⟩ := w_row (k := 5) W h (by decide +kernel : pins 148 4 = some (22, 7, 13, 5, [])) (by decide)
  obtain ⟨n4, l4, h⟩ := v_il h (by decide +kernel : pins 148 7 = some (3, 8, 1, 0, [])) (v := hh) rfl
  obtain ⟨n5, w8, l5, b8, e8, h⟩ := w_iald W h (by decide +kernel : pins 148 8 = some (24, 9, 0, 0, [])) (by decide)
  obtain ⟨n6, w9, l6, e9, h⟩ := u_i2l h (by decide +kernel : pins 148 9 = some (13, 10, 0, 0, []))
  obtain ⟨n7, w10, l7, e10, h⟩ := u_lmul h (by decide +kernel : pins 148 10 = some (11, 11, 2, 0, []))
  obtain ⟨n8, w11, l8, e11, h⟩ := u_lc h (by decide +kernel : pins 148 11 = some (1, 14, 4093, 0, []))
  have i11 : w11.toInt = 4093 := by rw [e11]; decide
  obtain ⟨n9, l9, h⟩ := v_al h (by decide +kernel : pins 148 14 = some (5, 15, 0, 0, [])) (v := t) rfl
  obtain ⟨n10, l10, h⟩ := w_row (k := 7) W h (by decide +kernel : pins 148 15 = some (22, 18, 13, 7, [])) (by decide)
  obtain ⟨n11, l11, h⟩ := v_il h (by decide +kernel : pins 148 18 = some (3, 19, 1, 0, [])) (v := hh) rfl
  obtain ⟨n12, w19, l12, b19, e19, h⟩ := w_iald W h (by decide +kernel : pins 148 19 = some (24, 20, 0, 0, [])) (by decide)
  obtain ⟨n13, w20, l13, e20, h⟩ := u_i2l h (by decide +kernel : pins 148 20 = some (13, 21, 0, 0, []))
  obtain ⟨n14, w21, l14, e21, h⟩ := u_lmul h (by decide +kernel : pins 148 21 = some (11, 22, 2, 0, []))
  obtain ⟨n15, w22, l15, e22, h⟩ := u_ladd h (by decide +kernel : pins 148 22 = some (11, 23, 0, 0, []))
  obtain ⟨n16, w23, l16, e23, h⟩ := u_lc h (by decide +kernel : pins 148 23 = some (1, 26, 65024, 0, []))
  have i23 : w23.toInt = 65024 := by rw [e23]; decide
  obtain ⟨n17, w26, l17, e26, h⟩ := u_lrem h (by decide +kernel : pins 148 26 = some (11, 27, 4, 0, [])) (by rw [e23]; decide)
  obtain ⟨n18, w27, l18, e27, h⟩ := u_l2i h (by decide +kernel : pins 148 27 = some (14, 28, 0, 0, []))
  have ex := u_ret38 h (by decide +kernel : pins 148 28 = some (38, 29, 0, 0, []))
  subst ex
  refine ⟨rfl, _, rfl, ?_⟩
  have r1 := n_rng w8
  have r2 := n_rng w19
  have q10 : w10.toInt = 257 * w8.toInt := by rw [e10, e9, lw_mul (by rw [i0, lw_i2l]; omega) (by rw [i0, lw_i2l]; omega), i0, lw_i2l]
  have q21 : w21.toInt = 4093 * w19.toInt := by rw [e21, e20, lw_mul (by rw [i11, lw_i2l]; omega) (by rw [i11, lw_i2l]; omega), i11, lw_i2l]
  have q22 : w22.toInt = 257 * w8.toInt + 4093 * w19.toInt := by rw [e22, lw_add (by omega) (by omega), q10, q21]
  have q26 : w26.toInt = (257 * w8.toInt + 4093 * w19.toInt).tmod 65024 := by rw [e26, lw_rem (by rw [i23]; decide), i23, q22]
  have b1 := Int.tmod_lt_of_pos (257 * w8.toInt + 4093 * w19.toInt) (show (0 : Int) < 65024 by decide)
  have b2 := Int.lt_tmod_of_pos (257 * w8.toInt + 4093 * w19.toInt) (show (0 : Int) < 65024 by decide)
  rw [e27, lw_l2i (by omega) (by omega), q26, e8, e19]
  rfl
theorem pc_send_l {t : Nat} {A : Nat → Nat} {hh k : Int32} (hk0 : 0 ≤ k.toInt ∧ k.toInt < 800) : ∀ (n : Nat) (c : Int32) (σ : ps) (x : Option Value × ps), Wld t A σ → (0 ≤ c.toInt ∧ c.toInt ≤ 200 ∧ ∀ e : Nat, (e : Int) < c.toInt → gI (vw t A σ) 42 (200 * k.toNatClampNeg + e) = gI (vw t A σ) 52 e) → prun n 147 55 [(3, .int c), (2, .int k), (0, .ref t), (1, .int hh)] [] σ = some x → x.1 = none ∧ SP t A σ x.2 ∧ (gI (vw t A σ) 53 0).toInt ≤ 200 ∧ (∀ j q : Nat, ¬ j = 42 → ¬ j = 48 → ¬ j = 49 → ¬ j = 50 → vw t A x.2 j q = vw t A σ j q) ∧ (∀ q : Nat, ¬ (200 * k.toNatClampNeg ≤ q ∧ (q : Int) < 200 * k.toInt + (gI (vw t A σ) 53 0).toInt) → vw t A x.2 42 q = vw t A σ 42 q) ∧ (∀ e : Nat, (e : Int) < (gI (vw t A σ) 53 0).toInt → gI (vw t A x.2) 42 (200 * k.toNatClampNeg + e) = gI (vw t A σ) 52 e) := by
  intro n
  induction n using Nat.strongRecOn with
  | ind n ih =>
    intro c σ x W I h
    obtain ⟨I1, I2, I3⟩ := I
    obtain ⟨n1, l1, h⟩ := v_il h (by decide +kernel : pins 147 55 = some (3, 56, 3, 0, [])) (v := c) rfl
    obtain ⟨n2, l2, h⟩ := v_al h (by decide +kernel : pins 147 56 = some (5, 57, 0, 0, [])) (v := t) rfl
    obtain ⟨n3, w57, l3, e57, h⟩ := w_fi (k := 53) W h (by decide +kernel : pins 147 57 = some (22, 60, 13, 53, [])) (by decide)
    obtain ⟨n4, l4, ⟨c60, h⟩ | ⟨c60, h⟩⟩ := u_ic3 h (by decide +kernel : pins 147 60 = some (17, 63, 3, ((99 : Nat) : Int), []))
    · obtain ⟨n5, l5, h⟩ := v_al h (by decide +kernel : pins 147 99 = some (5, 100, 0, 0, [])) (v := t) rfl
      obtain ⟨n6, l6, h⟩ := v_al h (by decide +kernel : pins 147 100 = some (5, 101, 0, 0, [])) (v := t) rfl
      obtain ⟨n7, w101, l7, e101, h⟩ := w_fi (k := 53) W h (by decide +kernel : pins 147 101 = some (22, 104, 13, 53, [])) (by decide)
      obtain ⟨n8, s104, l8, S104, u104, h⟩ := w_put (k := 50) W h (by decide +kernel : pins 147 104 = some (23, 107, 13, 50, [])) (by decide)
      obtain ⟨n9, l9, h⟩ := v_al h (by decide +kernel : pins 147 107 = some (5, 108, 0, 0, [])) (v := t) rfl
      obtain ⟨n10, l10, h⟩ := w_row (k := 48) S104.1 h (by decide +kernel : pins 147 108 = some (22, 111, 13, 48, [])) (by decide)
      obtain ⟨n11, w111, l11, ⟨e111, i111⟩, h⟩ := u_ic h (by decide +kernel : pins 147 111 = some (0, 112, 1, 0, [])) (by decide)
      obtain ⟨n12, l12, h⟩ := v_dup2 h (by decide +kernel : pins 147 112 = some (35, 113, 0, 0, []))
      obtain ⟨n13, w113, l13, b113, e113, h⟩ := w_iald S104.1 h (by decide +kernel : pins 147 113 = some (24, 114, 0, 0, [])) (by decide)
      obtain ⟨n14, w114, l14, ⟨e114, i114⟩, h⟩ := u_ic h (by decide +kernel : pins 147 114 = some (0, 115, 1, 0, [])) (by decide)
      obtain ⟨n15, w115, l15, e115, h⟩ := u_add h (by decide +kernel : pins 147 115 = some (10, 116, 0, 0, []))
      obtain ⟨n16, s116, l16, b116, S116, u116, h⟩ := w_iast S104.1 h (by decide +kernel : pins 147 116 = some (28, 117, 0, 0, [])) (by decide)
      obtain ⟨n17, l17, h⟩ := v_al h (by decide +kernel : pins 147 117 = some (5, 118, 0, 0, [])) (v := t) rfl
      obtain ⟨n18, l18, h⟩ := w_row (k := 48) S116.1 h (by decide +kernel : pins 147 118 = some (22, 121, 13, 48, [])) (by decide)
      obtain ⟨n19, w121, l19, ⟨e121, i121⟩, h⟩ := u_ic h (by decide +kernel : pins 147 121 = some (0, 122, 2, 0, [])) (by decide)
      obtain ⟨n20, l20, h⟩ := v_dup2 h (by decide +kernel : pins 147 122 = some (35, 123, 0, 0, []))
      obtain ⟨n21, w123, l21, b123, e123, h⟩ := w_iald S116.1 h (by decide +kernel : pins 147 123 = some (24, 124, 0, 0, [])) (by decide)
      obtain ⟨n22, l22, h⟩ := v_al h (by decide +kernel : pins 147 124 = some (5, 125, 0, 0, [])) (v := t) rfl
      obtain ⟨n23, w125, l23, e125, h⟩ := w_fi (k := 53) S116.1 h (by decide +kernel : pins 147 125 = some (22, 128, 13, 53, [])) (by decide)
      obtain ⟨n24, w128, l24, e128, h⟩ := u_add h (by decide +kernel : pins 147 128 = some (10, 129, 0, 0, []))
      obtain ⟨n25, s129, l25, b129, S129, u129, h⟩ := w_iast S116.1 h (by decide +kernel : pins 147 129 = some (28, 130, 0, 0, [])) (by decide)
      obtain ⟨n26, l26, h⟩ := v_al h (by decide +kernel : pins 147 130 = some (5, 131, 0, 0, [])) (v := t) rfl
      obtain ⟨n27, l27, h⟩ := w_row (k := 48) S129.1 h (by decide +kernel : pins 147 131 = some (22, 134, 13, 48, [])) (by decide)
      obtain ⟨n28, w134, l28, ⟨e134, i134⟩, h⟩ := u_ic h (by decide +kernel : pins 147 134 = some (0, 135, 4, 0, [])) (by decide)
      obtain ⟨n29, l29, h⟩ := v_al h (by decide +kernel : pins 147 135 = some (5, 136, 0, 0, [])) (v := t) rfl
      obtain ⟨n30, l30, h⟩ := w_row (k := 52) S129.1 h (by decide +kernel : pins 147 136 = some (22, 139, 13, 52, [])) (by decide)
      obtain ⟨n31, w139, l31, ⟨e139, i139⟩, h⟩ := u_ic h (by decide +kernel : pins 147 139 = some (0, 140, 0, 0, [])) (by decide)
      obtain ⟨n32, w140, l32, b140, e140, h⟩ := w_iald S129.1 h (by decide +kernel : pins 147 140 = some (24, 141, 0, 0, [])) (by decide)
      obtain ⟨n33, w141, l33, e141, h⟩ := u_add h (by decide +kernel : pins 147 141 = some (10, 142, 0, 0, []))
      obtain ⟨n34, l34, h⟩ := v_dup2 h (by decide +kernel : pins 147 142 = some (35, 143, 0, 0, []))
      obtain ⟨n35, w143, l35, b143, e143, h⟩ := w_iald S129.1 h (by decide +kernel : pins 147 143 = some (24, 144, 0, 0, [])) (by decide)
      obtain ⟨n36, w144, l36, ⟨e144, i144⟩, h⟩ := u_ic h (by decide +kernel : pins 147 144 = some (0, 145, 1, 0, [])) (by decide)
      obtain ⟨n37, w145, l37, e145, h⟩ := u_add h (by decide +kernel : pins 147 145 = some (10, 146, 0, 0, []))
      obtain ⟨n38, s146, l38, b146, S146, u146, h⟩ := w_iast S129.1 h (by decide +kernel : pins 147 146 = some (28, 147, 0, 0, [])) (by decide)
      obtain ⟨n39, l39, h⟩ := v_al h (by decide +kernel : pins 147 147 = some (5, 148, 0, 0, [])) (v := t) rfl
      obtain ⟨n40, l40, h⟩ := w_row (k := 48) S146.1 h (by decide +kernel : pins 147 148 = some (22, 151, 13, 48, [])) (by decide)
      obtain ⟨n41, w151, l41, ⟨e151, i151⟩, h⟩ := u_ic h (by decide +kernel : pins 147 151 = some (0, 153, 10, 0, [])) (by decide)
      obtain ⟨n42, l42, h⟩ := v_al h (by decide +kernel : pins 147 153 = some (5, 154, 0, 0, [])) (v := t) rfl
      obtain ⟨n43, w154, l43, e154, h⟩ := w_fl S146.1 h (by decide +kernel : pins 147 154 = some (22, 157, 13, 0, []))
      obtain ⟨n44, w157, l44, e157, h⟩ := u_l2i h (by decide +kernel : pins 147 157 = some (14, 158, 0, 0, []))
      obtain ⟨n45, s158, l45, b158, S158, u158, h⟩ := w_iast S146.1 h (by decide +kernel : pins 147 158 = some (28, 159, 0, 0, [])) (by decide)
      have ex := u_ret37 h (by decide +kernel : pins 147 159 = some (37, 160, 0, 0, []))
      subst ex
      refine ⟨rfl, ((((S104.tr S116).tr S129).tr S146).tr S158), by rw [← e57]; omega, fun j q h1 h2 h3 h4 => ?_, fun q _ => ?_, fun e he => ?_⟩
      · show vw t A s158 j q = _
        rw [u158, up_ne h2, u146, up_ne h2, u129, up_ne h2, u116, up_ne h2, u104, up_ne h4]
      · show vw t A s158 42 q = _
        rw [u158, up_ne (by decide), u146, up_ne (by decide), u129, up_ne (by decide), u116, up_ne (by decide), u104, up_ne (by decide)]
      · show gI (vw t A s158) 42 _ = _
        rw [u158, gI_ne (by decide), u146, gI_ne (by decide), u129, gI_ne (by decide), u116, gI_ne (by decide), u104, gI_ne (by decide)]
        refine I3 e ?_
        rw [← e57] at he
        omega
    · obtain ⟨n47, l47, h⟩ := v_al h (by decide +kernel : pins 147 63 = some (5, 64, 0, 0, [])) (v := t) rfl
      obtain ⟨n48, l48, h⟩ := w_row (k := 42) W h (by decide +kernel : pins 147 64 = some (22, 67, 13, 42, [])) (by decide)
      obtain ⟨n49, w67, l49, ⟨e67, i67⟩, h⟩ := u_ic h (by decide +kernel : pins 147 67 = some (0, 70, 200, 0, [])) (by decide)
      obtain ⟨n50, l50, h⟩ := v_il h (by decide +kernel : pins 147 70 = some (3, 71, 2, 0, [])) (v := k) rfl
      obtain ⟨n51, w71, l51, e71, h⟩ := u_mul h (by decide +kernel : pins 147 71 = some (10, 72, 2, 0, []))
      obtain ⟨n52, l52, h⟩ := v_il h (by decide +kernel : pins 147 72 = some (3, 73, 3, 0, [])) (v := c) rfl
      obtain ⟨n53, w73, l53, e73, h⟩ := u_add h (by decide +kernel : pins 147 73 = some (10, 74, 0, 0, []))
      obtain ⟨n54, l54, h⟩ := v_al h (by decide +kernel : pins 147 74 = some (5, 75, 0, 0, [])) (v := t) rfl
      obtain ⟨n55, l55, h⟩ := w_row (k := 52) W h (by decide +kernel : pins 147 75 = some (22, 78, 13, 52, [])) (by decide)
      obtain ⟨n56, l56, h⟩ := v_il h (by decide +kernel : pins 147 78 = some (3, 79, 3, 0, [])) (v := c) rfl
      obtain ⟨n57, w79, l57, b79, e79, h⟩ := w_iald W h (by decide +kernel : pins 147 79 = some (24, 80, 0, 0, [])) (by decide)
      obtain ⟨n58, s80, l58, b80, S80, u80, h⟩ := w_iast W h (by decide +kernel : pins 147 80 = some (28, 81, 0, 0, [])) (by decide)
      obtain ⟨n59, l59, h⟩ := v_al h (by decide +kernel : pins 147 81 = some (5, 82, 0, 0, [])) (v := t) rfl
      obtain ⟨n60, l60, h⟩ := w_row (k := 49) S80.1 h (by decide +kernel : pins 147 82 = some (22, 85, 13, 49, [])) (by decide)
      obtain ⟨n61, l61, h⟩ := v_il h (by decide +kernel : pins 147 85 = some (3, 86, 3, 0, [])) (v := c) rfl
      obtain ⟨n62, l62, h⟩ := v_al h (by decide +kernel : pins 147 86 = some (5, 87, 0, 0, [])) (v := t) rfl
      obtain ⟨n63, l63, h⟩ := w_row (k := 52) S80.1 h (by decide +kernel : pins 147 87 = some (22, 90, 13, 52, [])) (by decide)
      obtain ⟨n64, l64, h⟩ := v_il h (by decide +kernel : pins 147 90 = some (3, 91, 3, 0, [])) (v := c) rfl
      obtain ⟨n65, w91, l65, b91, e91, h⟩ := w_iald S80.1 h (by decide +kernel : pins 147 91 = some (24, 92, 0, 0, [])) (by decide)
      obtain ⟨n66, s92, l66, b92, S92, u92, h⟩ := w_iast S80.1 h (by decide +kernel : pins 147 92 = some (28, 93, 0, 0, [])) (by decide)
      obtain ⟨n67, w93, l67, e93, h⟩ := u_inc h (by decide +kernel : pins 147 93 = some (9, 96, 3, 1, [])) (v := c) rfl
      have h : prun n67 147 96 [(3, .int w93), (2, .int k), (0, .ref t), (1, .int hh)] [] s92 = some x := h
      obtain ⟨n68, l68, h⟩ := u_go h (by decide +kernel : pins 147 96 = some (20, 99, 0, ((55 : Nat) : Int), []))
      have h := prun_lv h (lv' := [(3, .int w93), (2, .int k), (0, .ref t), (1, .int hh)]) (lvLe.cons (lvLe.cons (lvLe.cons (lvLe.cons lvLe.nil rfl) rfl) rfl) rfl) (by decide : ([3, 2, 0, 1] : List Nat).Nodup) (by decide : ([3, 2, 0, 1] : List Nat).Nodup)
      have b92 : 0 ≤ c.toInt ∧ c.toInt < 200 := b92
      have hkn : (k.toNatClampNeg : Int) = k.toInt := n_clamp hk0.1
      have hcn : (c.toNatClampNeg : Int) = c.toInt := n_clamp I1
      have q93 : w93.toInt = c.toInt + 1 := addc e93 (by decide : (Int32.ofInt 1).toInt = 1) (by omega) (by omega) (by decide) (by decide)
      have q71 : w71.toInt = 200 * k.toInt := by rw [e71, n_mul (by rw [i67]; omega) (by rw [i67]; omega), i67]
      have q73 : w73.toInt = 200 * k.toInt + c.toInt := by rw [addc e73 rfl (by omega) (by omega) (by omega) (by omega), q71]
      have n73 : w73.toNatClampNeg = 200 * k.toNatClampNeg + c.toNatClampNeg := by rw [clampc q73 (by omega)]; omega
      have fr : ∀ j q, ¬ j = 42 → ¬ j = 49 → vw t A s92 j q = vw t A σ j q := fun j q h1 h2 => by rw [u92, up_ne h2, u80, up_ne h1]
      have f42 : ∀ q, ¬ q = 200 * k.toNatClampNeg + c.toNatClampNeg → vw t A s92 42 q = vw t A σ 42 q := fun q h1 => by rw [u92, up_ne (by decide), u80, up_ni (by decide) (by rw [n73]; exact h1)]
      have g53 : gI (vw t A s92) 53 0 = gI (vw t A σ) 53 0 := by unfold gI; rw [fr 53 0 (by decide) (by decide)]
      have g52 : ∀ e, gI (vw t A s92) 52 e = gI (vw t A σ) 52 e := fun e => by unfold gI; rw [fr 52 e (by decide) (by decide)]
      have I' : 0 ≤ w93.toInt ∧ w93.toInt ≤ 200 ∧ ∀ e : Nat, (e : Int) < w93.toInt → gI (vw t A s92) 42 (200 * k.toNatClampNeg + e) = gI (vw t A s92) 52 e := by
        refine ⟨by omega, by omega, fun e he => ?_⟩
        rw [g52]
        by_cases h1 : e = c.toNatClampNeg
        · rw [h1, u92, gI_ne (by decide), u80, ← n73, gI_eq, e79]
        · unfold gI
          rw [f42 _ (by omega)]
          exact I3 e (by omega)
      obtain ⟨y1, y2, y6, y3, y4, y5⟩ := ih n68 (by omega) _ _ x S92.1 I' h
      rw [g53] at y4 y5 y6
      have q57 : w57.toInt = (gI (vw t A σ) 53 0).toInt := by rw [e57]
      refine ⟨y1, (S80.tr S92).tr y2, y6, fun j q h1 h2 h3 h4 => (y3 j q h1 h2 h3 h4).trans (fr j q h1 h3), fun q hq => (y4 q hq).trans (f42 q (fun e => hq ⟨by omega, by omega⟩)), fun e he => (y5 e he).trans (g52 e)⟩
theorem pc_send {t n : Nat} {A : Nat → Nat} {hh : Int32} {σ : ps} {x : Option Value × ps} (W : Wld t A σ) (h : prun n 147 0 (lv_args 0 [.ref t, .int hh]) [] σ = some x) (hA : 0 ≤ (gI (vw t A σ) 46 0).toInt ∧ (gI (vw t A σ) 46 0).toInt < 800) (hM : 0 ≤ (gI (vw t A σ) 47 0).toInt ∧ (gI (vw t A σ) 47 0).toInt ≤ 1000) : x.1 = none ∧ SP t A σ x.2 ∧ (gI (vw t A σ) 53 0).toInt ≤ 200 ∧ (∀ j q : Nat, ¬ j = 42 → ¬ j = 43 → ¬ j = 44 → ¬ j = 45 → ¬ j = 47 → ¬ j = 48 → ¬ j = 49 → ¬ j = 50 → vw t A x.2 j q = vw t A σ j q) ∧ (gI (vw t A x.2) 47 0).toInt = (gI (vw t A σ) 47 0).toInt + 1 ∧ (∀ q : Nat, ¬ (200 * (((gI (vw t A σ) 46 0).toInt + (gI (vw t A σ) 47 0).toInt) % 800).toNat ≤ q ∧ (q : Int) < 200 * ((((gI (vw t A σ) 46 0).toInt + (gI (vw t A σ) 47 0).toInt) % 800).toNat : Int) + (gI (vw t A σ) 53 0).toInt) → vw t A x.2 42 q = vw t A σ 42 q) ∧ (∀ e : Nat, (e : Int) < (gI (vw t A σ) 53 0).toInt → gI (vw t A x.2) 42 (200 * (((gI (vw t A σ) 46 0).toInt + (gI (vw t A σ) 47 0).toInt) % 800).toNat + e) = gI (vw t A σ) 52 e) := by
  have h : prun n 147 0 [(0, .ref t), (1, .int hh)] [] σ = some x := h
  obtain ⟨n1, l1, h⟩ := v_al h (by decide +kernel : pins 147 0 = some (5, 1, 0, 0, [])) (v := t) rfl
  obtain ⟨n2, w1, l2, e1, h⟩ := w_fi (k := 46) W h (by decide +kernel : pins 147 1 = some (22, 4, 13, 46, [])) (by decide)
  obtain ⟨n3, l3, h⟩ := v_al h (by decide +kernel : pins 147 4 = some (5, 5, 0, 0, [])) (v := t) rfl
  obtain ⟨n4, w5, l4, e5, h⟩ := w_fi (k := 47) W h (by decide +kernel : pins 147 5 = some (22, 8, 13, 47, [])) (by decide)
  obtain ⟨n5, w8, l5, e8, h⟩ := u_add h (by decide +kernel : pins 147 8 = some (10, 9, 0, 0, []))
  obtain ⟨n6, w9, l6, ⟨e9, i9⟩, h⟩ := u_ic h (by decide +kernel : pins 147 9 = some (0, 12, 800, 0, [])) (by decide)
  obtain ⟨n7, w12, l7, e12, h⟩ := u_rem h (by decide +kernel : pins 147 12 = some (10, 13, 4, 0, [])) (by rw [e9]; decide)
  obtain ⟨n8, l8, h⟩ := v_is h (by decide +kernel : pins 147 13 = some (6, 14, 2, 0, []))
  have h : prun n8 147 14 [(2, .int w12), (0, .ref t), (1, .int hh)] [] σ = some x := h
  obtain ⟨n9, l9, h⟩ := v_al h (by decide +kernel : pins 147 14 = some (5, 15, 0, 0, [])) (v := t) rfl
  obtain ⟨n10, l10, h⟩ := v_dup h (by decide +kernel : pins 147 15 = some (34, 16, 0, 0, []))
  obtain ⟨n11, w16, l11, e16, h⟩ := w_fi (k := 47) W h (by decide +kernel : pins 147 16 = some (22, 19, 13, 47, [])) (by decide)
  obtain ⟨n12, w19, l12, ⟨e19, i19⟩, h⟩ := u_ic h (by decide +kernel : pins 147 19 = some (0, 20, 1, 0, [])) (by decide)
  obtain ⟨n13, w20, l13, e20, h⟩ := u_add h (by decide +kernel : pins 147 20 = some (10, 21, 0, 0, []))
  obtain ⟨n14, s21, l14, S21, u21, h⟩ := w_put (k := 47) W h (by decide +kernel : pins 147 21 = some (23, 24, 13, 47, [])) (by decide)
  obtain ⟨n15, l15, h⟩ := v_al h (by decide +kernel : pins 147 24 = some (5, 25, 0, 0, [])) (v := t) rfl
  obtain ⟨n16, l16, h⟩ := w_row (k := 44) S21.1 h (by decide +kernel : pins 147 25 = some (22, 28, 13, 44, [])) (by decide)
  obtain ⟨n17, l17, h⟩ := v_il h (by decide +kernel : pins 147 28 = some (3, 29, 2, 0, [])) (v := w12) rfl
  obtain ⟨n18, l18, h⟩ := v_il h (by decide +kernel : pins 147 29 = some (3, 30, 1, 0, [])) (v := hh) rfl
  obtain ⟨n19, s30, l19, b30, S30, u30, h⟩ := w_iast S21.1 h (by decide +kernel : pins 147 30 = some (28, 31, 0, 0, [])) (by decide)
  obtain ⟨n20, l20, h⟩ := v_al h (by decide +kernel : pins 147 31 = some (5, 32, 0, 0, [])) (v := t) rfl
  obtain ⟨n21, l21, h⟩ := w_row (k := 45) S30.1 h (by decide +kernel : pins 147 32 = some (22, 35, 13, 45, [])) (by decide)
  obtain ⟨n22, l22, h⟩ := v_il h (by decide +kernel : pins 147 35 = some (3, 36, 2, 0, [])) (v := w12) rfl
  obtain ⟨n23, l23, h⟩ := v_al h (by decide +kernel : pins 147 36 = some (5, 37, 0, 0, [])) (v := t) rfl
  obtain ⟨n24, l24, h⟩ := w_row (k := 6) S30.1 h (by decide +kernel : pins 147 37 = some (22, 40, 13, 6, [])) (by decide)
  obtain ⟨n25, l25, h⟩ := v_il h (by decide +kernel : pins 147 40 = some (3, 41, 1, 0, [])) (v := hh) rfl
  obtain ⟨n26, w41, l26, b41, e41, h⟩ := w_iald S30.1 h (by decide +kernel : pins 147 41 = some (24, 42, 0, 0, [])) (by decide)
  obtain ⟨n27, s42, l27, b42, S42, u42, h⟩ := w_iast S30.1 h (by decide +kernel : pins 147 42 = some (28, 43, 0, 0, [])) (by decide)
  obtain ⟨n28, l28, h⟩ := v_al h (by decide +kernel : pins 147 43 = some (5, 44, 0, 0, [])) (v := t) rfl
  obtain ⟨n29, l29, h⟩ := w_row (k := 43) S42.1 h (by decide +kernel : pins 147 44 = some (22, 47, 13, 43, [])) (by decide)
  obtain ⟨n30, l30, h⟩ := v_il h (by decide +kernel : pins 147 47 = some (3, 48, 2, 0, [])) (v := w12) rfl
  obtain ⟨n31, l31, h⟩ := v_al h (by decide +kernel : pins 147 48 = some (5, 49, 0, 0, [])) (v := t) rfl
  obtain ⟨n32, w49, l32, e49, h⟩ := w_fi (k := 53) S42.1 h (by decide +kernel : pins 147 49 = some (22, 52, 13, 53, [])) (by decide)
  obtain ⟨n33, s52, l33, b52, S52, u52, h⟩ := w_iast S42.1 h (by decide +kernel : pins 147 52 = some (28, 53, 0, 0, [])) (by decide)
  obtain ⟨n34, w53, l34, ⟨e53, i53⟩, h⟩ := u_ic h (by decide +kernel : pins 147 53 = some (0, 54, 0, 0, [])) (by decide)
  obtain ⟨n35, l35, h⟩ := v_is h (by decide +kernel : pins 147 54 = some (6, 55, 3, 0, []))
  have h : prun n35 147 55 [(3, .int w53), (2, .int w12), (0, .ref t), (1, .int hh)] [] s52 = some x := h
  have h := prun_lv h (lv' := [(3, .int w53), (2, .int w12), (0, .ref t), (1, .int hh)]) (lvLe.cons (lvLe.cons (lvLe.cons (lvLe.cons lvLe.nil rfl) rfl) rfl) rfl) (by decide : ([3, 2, 0, 1] : List Nat).Nodup) (by decide : ([3, 2, 0, 1] : List Nat).Nodup)
  rw [e1] at e8
  rw [e5] at e8
  have q8 : w8.toInt = (gI (vw t A σ) 46 0).toInt + (gI (vw t A σ) 47 0).toInt := addc e8 rfl (by omega) (by omega) (by omega) (by omega)
  have q12 : w12.toInt = ((gI (vw t A σ) 46 0).toInt + (gI (vw t A σ) 47 0).toInt) % 800 := by rw [e12, n_rem (by rw [i9]; decide), i9, q8, Int.tmod_eq_emod_of_nonneg (by omega)]
  have p1 := Int.emod_nonneg ((gI (vw t A σ) 46 0).toInt + (gI (vw t A σ) 47 0).toInt) (show (800 : Int) ≠ 0 by decide)
  have p2 := Int.emod_lt_of_pos ((gI (vw t A σ) 46 0).toInt + (gI (vw t A σ) 47 0).toInt) (show (0 : Int) < 800 by decide)
  have n12 : w12.toNatClampNeg = (((gI (vw t A σ) 46 0).toInt + (gI (vw t A σ) 47 0).toInt) % 800).toNat := clampc q12 (by omega)
  have nI : ((((gI (vw t A σ) 46 0).toInt + (gI (vw t A σ) 47 0).toInt) % 800).toNat : Int) = w12.toInt := by omega
  obtain ⟨y1, y2, y6, y3, y4, y5⟩ := pc_send_l ⟨by omega, by omega⟩ _ _ _ x S52.1 ⟨by rw [i53]; decide, by rw [i53]; decide, fun e he => by rw [i53] at he; omega⟩ h
  have fr : ∀ j q, ¬ j = 43 → ¬ j = 44 → ¬ j = 45 → ¬ j = 47 → vw t A s52 j q = vw t A σ j q := fun j q h1 h2 h3 h4 => by rw [u52, up_ne h1, u42, up_ne h3, u30, up_ne h2, u21, up_ne h4]
  have g53 : gI (vw t A s52) 53 0 = gI (vw t A σ) 53 0 := by unfold gI; rw [fr 53 0 (by decide) (by decide) (by decide) (by decide)]
  rw [g53] at y4 y5 y6
  rw [n12] at y4 y5
  refine ⟨y1, (((S21.tr S30).tr S42).tr S52).tr y2, y6, fun j q h1 h2 h3 h4 h5 h6 h7 h8 => (y3 j q h1 h6 h7 h8).trans (fr j q h2 h3 h4 h5), ?_, fun q hq => (y4 q (fun e => hq ⟨e.1, by omega⟩)).trans (fr 42 q (by decide) (by decide) (by decide) (by decide)), fun e he => (y5 e he).trans ?_⟩
  · have e : gI (vw t A x.2) 47 0 = w20 := by
      unfold gI
      rw [y3 47 0 (by decide) (by decide) (by decide) (by decide), u52, up_ne (by decide), u42, up_ne (by decide), u30, up_ne (by decide), u21, up_sc (by decide)]
      rfl
    rw [e, addc e20 i19 (by rw [e16]; omega) (by rw [e16]; omega) (by decide) (by decide), e16]
  · unfold gI
    rw [fr 52 e (by decide) (by decide) (by decide) (by decide)]
