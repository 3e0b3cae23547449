theorem pc_alike0_l {t : Nat} {A : Nat → Nat} {k1 k2 : Nat} {i j : Int32} (hk1 : isRw k1 = true) (hk2 : isRw k2 = true) : ∀ (n : Nat) (c is : Int32) (σ : ps) (x : Option Value × ps), Wld t A σ → (True) → prun n 140 19 [(5, .int c), (4, .int is), (0, .ref (A k1)), (1, .int i), (2, .ref (A k2)), (3, .int j)] [] σ = some x → x.2 = σ ∧ ∃ w : Int32, x.1 = some (.int w) ∧ True := by
  intro n
  induction n using Nat.strongRecOn with
  | ind n ih =>
    intro c is σ x W I h
    obtain ⟨n1, l1, h⟩ := v_il h (by decide +kernel : pins 140 19 = some (3, 21, 5, 0, [])) (v := c) rfl
    obtain ⟨n2, l2, h⟩ := v_al h (by decide +kernel : pins 140 21 = some (5, 22, 0, 0, [])) (v := (A k1)) rfl
    obtain ⟨n3, l3, h⟩ := v_il h (by decide +kernel : pins 140 22 = some (3, 23, 1, 0, [])) (v := i) rfl
    obtain ⟨n4, w23, l4, b23, e23, h⟩ := w_iald W h (by decide +kernel : pins 140 23 = some (24, 24, 0, 0, [])) hk1
    obtain ⟨n5, l5, ⟨c24, h⟩ | ⟨c24, h⟩⟩ := u_ic4 h (by decide +kernel : pins 140 24 = some (17, 27, 4, ((66 : Nat) : Int), []))
    · obtain ⟨n6, l6, h⟩ := v_il h (by decide +kernel : pins 140 66 = some (3, 68, 4, 0, [])) (v := is) rfl
      have ex := u_ret38 h (by decide +kernel : pins 140 68 = some (38, 69, 0, 0, []))
      subst ex
      exact ⟨rfl, _, rfl, trivial⟩
    · obtain ⟨n8, l8, h⟩ := v_il h (by decide +kernel : pins 140 27 = some (3, 29, 4, 0, [])) (v := is) rfl
      obtain ⟨n9, l9, ⟨c29, h⟩ | ⟨c29, h⟩⟩ := u_if0 h (by decide +kernel : pins 140 29 = some (16, 32, 0, ((66 : Nat) : Int), []))
      · obtain ⟨n10, l10, h⟩ := v_il h (by decide +kernel : pins 140 66 = some (3, 68, 4, 0, [])) (v := is) rfl
        have ex := u_ret38 h (by decide +kernel : pins 140 68 = some (38, 69, 0, 0, []))
        subst ex
        exact ⟨rfl, _, rfl, trivial⟩
      · obtain ⟨n12, l12, h⟩ := v_al h (by decide +kernel : pins 140 32 = some (5, 33, 0, 0, [])) (v := (A k1)) rfl
        obtain ⟨n13, l13, h⟩ := v_il h (by decide +kernel : pins 140 33 = some (3, 34, 1, 0, [])) (v := i) rfl
        obtain ⟨n14, l14, h⟩ := v_il h (by decide +kernel : pins 140 34 = some (3, 36, 5, 0, [])) (v := c) rfl
        obtain ⟨n15, w36, l15, e36, h⟩ := u_add h (by decide +kernel : pins 140 36 = some (10, 37, 0, 0, []))
        obtain ⟨n16, w37, l16, b37, e37, h⟩ := w_iald W h (by decide +kernel : pins 140 37 = some (24, 38, 0, 0, [])) hk1
        obtain ⟨n17, r38, s38, l17, h38, h⟩ := pinv_call h (by decide +kernel : pins 140 38 = some (36, 41, 138, 1, [1]))
        have h38 : prun n17 138 0 (lv_args 0 [.int w37]) [] σ = some (r38, s38) := h38
        obtain ⟨es38, w38, er38, f38⟩ := pc_small W h38
        have er38 : r38 = some (.int w38) := er38
        have et38 : s38 = σ := es38
        rw [et38] at h
        subst er38
        have h : prun n17 140 41 [(5, .int c), (4, .int is), (0, .ref (A k1)), (1, .int i), (2, .ref (A k2)), (3, .int j)] [.int w38] σ = some x := h
        obtain ⟨n18, l18, h⟩ := v_al h (by decide +kernel : pins 140 41 = some (5, 42, 2, 0, [])) (v := (A k2)) rfl
        obtain ⟨n19, l19, h⟩ := v_il h (by decide +kernel : pins 140 42 = some (3, 43, 3, 0, [])) (v := j) rfl
        obtain ⟨n20, l20, h⟩ := v_il h (by decide +kernel : pins 140 43 = some (3, 45, 5, 0, [])) (v := c) rfl
        obtain ⟨n21, w45, l21, e45, h⟩ := u_add h (by decide +kernel : pins 140 45 = some (10, 46, 0, 0, []))
        obtain ⟨n22, w46, l22, b46, e46, h⟩ := w_iald W h (by decide +kernel : pins 140 46 = some (24, 47, 0, 0, [])) hk2
        obtain ⟨n23, r47, s47, l23, h47, h⟩ := pinv_call h (by decide +kernel : pins 140 47 = some (36, 50, 138, 1, [1]))
        have h47 : prun n23 138 0 (lv_args 0 [.int w46]) [] σ = some (r47, s47) := h47
        obtain ⟨es47, w47, er47, f47⟩ := pc_small W h47
        have er47 : r47 = some (.int w47) := er47
        have et47 : s47 = σ := es47
        rw [et47] at h
        subst er47
        have h : prun n23 140 50 [(5, .int c), (4, .int is), (0, .ref (A k1)), (1, .int i), (2, .ref (A k2)), (3, .int j)] [.int w47, .int w38] σ = some x := h
        obtain ⟨n24, l24, ⟨c50, h⟩ | ⟨c50, h⟩⟩ := u_ic1 h (by decide +kernel : pins 140 50 = some (17, 53, 1, ((57 : Nat) : Int), []))
        · obtain ⟨n25, w57, l25, ⟨e57, i57⟩, h⟩ := u_ic h (by decide +kernel : pins 140 57 = some (0, 58, 0, 0, [])) (by decide)
          obtain ⟨n26, l26, h⟩ := v_is h (by decide +kernel : pins 140 58 = some (6, 60, 4, 0, []))
          have h : prun n26 140 60 [(4, .int w57), (5, .int c), (0, .ref (A k1)), (1, .int i), (2, .ref (A k2)), (3, .int j)] [] σ = some x := h
          obtain ⟨n27, w60, l27, e60, h⟩ := u_inc h (by decide +kernel : pins 140 60 = some (9, 63, 5, 1, [])) (v := c) rfl
          have h : prun n27 140 63 [(5, .int w60), (4, .int w57), (0, .ref (A k1)), (1, .int i), (2, .ref (A k2)), (3, .int j)] [] σ = some x := h
          obtain ⟨n28, l28, h⟩ := u_go h (by decide +kernel : pins 140 63 = some (20, 66, 0, ((19 : Nat) : Int), []))
          have h := prun_lv h (lv' := [(5, .int w60), (4, .int w57), (0, .ref (A k1)), (1, .int i), (2, .ref (A k2)), (3, .int j)]) (lvLe.cons (lvLe.cons (lvLe.cons (lvLe.cons (lvLe.cons (lvLe.cons lvLe.nil rfl) rfl) rfl) rfl) rfl) rfl) (by decide : ([5, 4, 0, 1, 2, 3] : List Nat).Nodup) (by decide : ([5, 4, 0, 1, 2, 3] : List Nat).Nodup)
          exact ih n28 (by omega) _ _ _ x W trivial h
        · obtain ⟨n29, w53, l29, ⟨e53, i53⟩, h⟩ := u_ic h (by decide +kernel : pins 140 53 = some (0, 54, 1, 0, [])) (by decide)
          obtain ⟨n30, l30, h⟩ := u_go h (by decide +kernel : pins 140 54 = some (20, 57, 0, ((58 : Nat) : Int), []))
          obtain ⟨n31, l31, h⟩ := v_is h (by decide +kernel : pins 140 58 = some (6, 60, 4, 0, []))
          have h : prun n31 140 60 [(4, .int w53), (5, .int c), (0, .ref (A k1)), (1, .int i), (2, .ref (A k2)), (3, .int j)] [] σ = some x := h
          obtain ⟨n32, w60, l32, e60, h⟩ := u_inc h (by decide +kernel : pins 140 60 = some (9, 63, 5, 1, [])) (v := c) rfl
          have h : prun n32 140 63 [(5, .int w60), (4, .int w53), (0, .ref (A k1)), (1, .int i), (2, .ref (A k2)), (3, .int j)] [] σ = some x := h
          obtain ⟨n33, l33, h⟩ := u_go h (by decide +kernel : pins 140 63 = some (20, 66, 0, ((19 : Nat) : Int), []))
          have h := prun_lv h (lv' := [(5, .int w60), (4, .int w53), (0, .ref (A k1)), (1, .int i), (2, .ref (A k2)), (3, .int j)]) (lvLe.cons (lvLe.cons (lvLe.cons (lvLe.cons (lvLe.cons (lvLe.cons lvLe.nil rfl) rfl) rfl) rfl) rfl) rfl) (by decide : ([5, 4, 0, 1, 2, 3] : List Nat).Nodup) (by decide : ([5, 4, 0, 1, 2, 3] : List Nat).Nodup)
          exact ih n33 (by omega) _ _ _ x W trivial h
theorem pc_alike0 {t n : Nat} {A : Nat → Nat} {k1 k2 : Nat} {i j : Int32} {σ : ps} {x : Option Value × ps} (W : Wld t A σ) (h : prun n 140 0 (lv_args 0 [.ref (A k1), .int i, .ref (A k2), .int j]) [] σ = some x) (hk1 : isRw k1 = true) (hk2 : isRw k2 = true) : x.2 = σ ∧ ∃ w : Int32, x.1 = some (.int w) ∧ True := by
  have h : prun n 140 0 [(0, .ref (A k1)), (1, .int i), (2, .ref (A k2)), (3, .int j)] [] σ = some x := h
  obtain ⟨n1, l1, h⟩ := v_al h (by decide +kernel : pins 140 0 = some (5, 1, 0, 0, [])) (v := (A k1)) rfl
  obtain ⟨n2, l2, h⟩ := v_il h (by decide +kernel : pins 140 1 = some (3, 2, 1, 0, [])) (v := i) rfl
  obtain ⟨n3, w2, l3, b2, e2, h⟩ := w_iald W h (by decide +kernel : pins 140 2 = some (24, 3, 0, 0, [])) hk1
  obtain ⟨n4, l4, h⟩ := v_al h (by decide +kernel : pins 140 3 = some (5, 4, 2, 0, [])) (v := (A k2)) rfl
  obtain ⟨n5, l5, h⟩ := v_il h (by decide +kernel : pins 140 4 = some (3, 5, 3, 0, [])) (v := j) rfl
  obtain ⟨n6, w5, l6, b5, e5, h⟩ := w_iald W h (by decide +kernel : pins 140 5 = some (24, 6, 0, 0, [])) hk2
  obtain ⟨n7, l7, ⟨c6, h⟩ | ⟨c6, h⟩⟩ := u_ic1 h (by decide +kernel : pins 140 6 = some (17, 9, 1, ((13 : Nat) : Int), []))
  · obtain ⟨n8, w13, l8, ⟨e13, i13⟩, h⟩ := u_ic h (by decide +kernel : pins 140 13 = some (0, 14, 0, 0, [])) (by decide)
    obtain ⟨n9, l9, h⟩ := v_is h (by decide +kernel : pins 140 14 = some (6, 16, 4, 0, []))
    have h : prun n9 140 16 [(4, .int w13), (0, .ref (A k1)), (1, .int i), (2, .ref (A k2)), (3, .int j)] [] σ = some x := h
    obtain ⟨n10, w16, l10, ⟨e16, i16⟩, h⟩ := u_ic h (by decide +kernel : pins 140 16 = some (0, 17, 1, 0, [])) (by decide)
    obtain ⟨n11, l11, h⟩ := v_is h (by decide +kernel : pins 140 17 = some (6, 19, 5, 0, []))
    have h : prun n11 140 19 [(5, .int w16), (4, .int w13), (0, .ref (A k1)), (1, .int i), (2, .ref (A k2)), (3, .int j)] [] σ = some x := h
    have h := prun_lv h (lv' := [(5, .int w16), (4, .int w13), (0, .ref (A k1)), (1, .int i), (2, .ref (A k2)), (3, .int j)]) (lvLe.cons (lvLe.cons (lvLe.cons (lvLe.cons (lvLe.cons (lvLe.cons lvLe.nil rfl) rfl) rfl) rfl) rfl) rfl) (by decide : ([5, 4, 0, 1, 2, 3] : List Nat).Nodup) (by decide : ([5, 4, 0, 1, 2, 3] : List Nat).Nodup)
    exact pc_alike0_l hk1 hk2 _ _ _ _ x W trivial h
  · obtain ⟨n12, w9, l12, ⟨e9, i9⟩, h⟩ := u_ic h (by decide +kernel : pins 140 9 = some (0, 10, 1, 0, [])) (by decide)
    obtain ⟨n13, l13, h⟩ := u_go h (by decide +kernel : pins 140 10 = some (20, 13, 0, ((14 : Nat) : Int), []))
    obtain ⟨n14, l14, h⟩ := v_is h (by decide +kernel : pins 140 14 = some (6, 16, 4, 0, []))
    have h : prun n14 140 16 [(4, .int w9), (0, .ref (A k1)), (1, .int i), (2, .ref (A k2)), (3, .int j)] [] σ = some x := h
    obtain ⟨n15, w16, l15, ⟨e16, i16⟩, h⟩ := u_ic h (by decide +kernel : pins 140 16 = some (0, 17, 1, 0, [])) (by decide)
    obtain ⟨n16, l16, h⟩ := v_is h (by decide +kernel : pins 140 17 = some (6, 19, 5, 0, []))
    have h : prun n16 140 19 [(5, .int w16), (4, .int w9), (0, .ref (A k1)), (1, .int i), (2, .ref (A k2)), (3, .int j)] [] σ = some x := h
    have h := prun_lv h (lv' := [(5, .int w16), (4, .int w9), (0, .ref (A k1)), (1, .int i), (2, .ref (A k2)), (3, .int j)]) (lvLe.cons (lvLe.cons (lvLe.cons (lvLe.cons (lvLe.cons (lvLe.cons lvLe.nil rfl) rfl) rfl) rfl) rfl) rfl) (by decide : ([5, 4, 0, 1, 2, 3] : List Nat).Nodup) (by decide : ([5, 4, 0, 1, 2, 3] : List Nat).Nodup)
    exact pc_alike0_l hk1 hk2 _ _ _ _ x W trivial h
/-- beside out nothing changes, and its first byte stays -/
def FrZ (V V' : Nat → Nat → Value) : Prop := (∀ j q : Nat, ¬ (52 ≤ j ∧ j ≤ 56) → V' j q = V j q) ∧ gI V' 52 0 = gI V 52 0 ∧ (1 ≤ (gI V 53 0).toInt → 1 ≤ (gI V' 53 0).toInt)
theorem FrZ.rf {V : Nat → Nat → Value} : FrZ V V := ⟨fun _ _ _ => rfl, rfl, fun h => h⟩
theorem FrZ.tr {V V1 V2 : Nat → Nat → Value} (h : FrZ V V1) (h1 : FrZ V1 V2) : FrZ V V2 := ⟨fun j q hj => (h1.1 j q hj).trans (h.1 j q hj), h1.2.1.trans h.2.1, fun x => h1.2.2 (h.2.2 x)⟩
theorem FrO.z {V V' : Nat → Nat → Value} (h : FrO V V') (h1 : 1 ≤ (gI V 53 0).toInt) : FrZ V V' := ⟨fun j q hj => h.1 j q (by omega) (by omega) (by omega) (by omega) (by omega), h.out (by omega), fun x => by have := h.2; omega⟩
theorem FrZ.ring {V V' : Nat → Nat → Value} (h : FrZ V V') : gI V' 46 0 = gI V 46 0 ∧ gI V' 47 0 = gI V 47 0 ∧ ∀ s, pk V' s = pk V s := by
  refine ⟨?_, ?_, fun s => ?_⟩
  · unfold gI; rw [h.1 46 0 (by decide)]
  · unfold gI; rw [h.1 47 0 (by decide)]
  · unfold pk gI; rw [h.1 42 _ (by decide), h.1 42 _ (by decide), h.1 42 _ (by decide)]
theorem all_snd4 {V V1 V2 V3 : Nat → Nat → Value} {c : Int32} (e : V1 = up (up (up V 52 0 (.int c)) 53 0 (.int 1)) 55 0 (.int 0)) (F : FrZ V1 V2) (h5 : ¬ c.toInt = 5) (m : (gI V2 53 0).toInt ≤ 200) (f : ∀ j q : Nat, ¬ j = 42 → ¬ j = 43 → ¬ j = 44 → ¬ j = 45 → ¬ j = 47 → ¬ j = 48 → ¬ j = 49 → ¬ j = 50 → V3 j q = V2 j q) (hm : (gI V3 47 0).toInt = (gI V2 47 0).toInt + 1)
    (r1 : ∀ q : Nat, ¬ (200 * slt V2 ≤ q ∧ (q : Int) < 200 * (slt V2 : Int) + (gI V2 53 0).toInt) → V3 42 q = V2 42 q) (r2 : ∀ e : Nat, (e : Int) < (gI V2 53 0).toInt → gI V3 42 (200 * slt V2 + e) = gI V2 52 e) :
    FrS V V3 ∧ ∃ p, Snd V V3 p ∧ ((c.toInt = 1 ∨ c.toInt = 3 ∨ c.toInt = 4) → p = 8) := by
  obtain ⟨b1, b2, b3, b4, b5, b6⟩ := begin_ok e
  obtain ⟨c1, c2, c3⟩ := F.ring
  have o0 : gI V2 52 0 = c := F.2.1.trans b1
  have s1 : 1 ≤ (gI V2 53 0).toInt := F.2.2 (by omega)
  obtain ⟨d1, p, d2, d3, _⟩ := send_snd s1 (by rw [o0]; intro h; exact absurd h h5) m f hm r1 r2
  rw [o0] at d3
  have fs : FrS V1 V2 := fun j q hj => F.1 j q (by omega)
  exact ⟨(b3.tr fs).tr d1, p, Snd.of (c1.trans b4) (c2.trans b5) (fun s => (c3 s).trans (b6 s)) d2, d3⟩
theorem pre_snd4 {V V1 V2 : Nat → Nat → Value} {c : Int32} (e : V1 = up (up (up V 52 0 (.int c)) 53 0 (.int 1)) 55 0 (.int 0)) (F : FrZ V1 V2) (HA : 0 ≤ (gI V 46 0).toInt ∧ (gI V 46 0).toInt < 800) (HM : 0 ≤ (gI V 47 0).toInt ∧ (gI V 47 0).toInt ≤ 1000) : (0 ≤ (gI V2 46 0).toInt ∧ (gI V2 46 0).toInt < 800) ∧ (0 ≤ (gI V2 47 0).toInt ∧ (gI V2 47 0).toInt ≤ 1000) := by
  obtain ⟨b1, b2, b3, b4, b5, b6⟩ := begin_ok e
  obtain ⟨c1, c2, c3⟩ := F.ring
  rw [c1, c2, b4, b5]
  exact ⟨HA, HM⟩
theorem pc_sendAsk_l {t : Nat} {A : Nat → Nat} {hh a sort i kn : Int32} {k : Nat} (hk : isRw k = true) (ha : 1 ≤ a.toInt) : ∀ (n : Nat) (c : Int32) (σ : ps) (x : Option Value × ps), Wld t A σ → (1 ≤ (gI (vw t A σ) 53 0).toInt) → prun n 153 36 [(7, .int c), (6, .int a), (0, .ref t), (1, .int hh), (2, .int sort), (3, .ref (A k)), (4, .int i), (5, .int kn)] [] σ = some x → ∃ (m : Nat) (c2 : Int32) (σ' : ps), SP t A σ σ' ∧ FrZ (vw t A σ) (vw t A σ') ∧ prun m 153 176 [(7, .int c2), (6, .int a), (0, .ref t), (1, .int hh), (2, .int sort), (3, .ref (A k)), (4, .int i), (5, .int kn)] [] σ' = some x := by
  intro n
  induction n using Nat.strongRecOn with
  | ind n ih =>
    intro c σ x W I h
    obtain ⟨n1, l1, h⟩ := v_il h (by decide +kernel : pins 153 36 = some (3, 38, 7, 0, [])) (v := c) rfl
    obtain ⟨n2, w38, l2, ⟨e38, i38⟩, h⟩ := u_ic h (by decide +kernel : pins 153 38 = some (0, 40, 24, 0, [])) (by decide)
    obtain ⟨n3, l3, h⟩ := v_il h (by decide +kernel : pins 153 40 = some (3, 41, 1, 0, [])) (v := hh) rfl
    obtain ⟨n4, w41, l4, e41, h⟩ := u_mul h (by decide +kernel : pins 153 41 = some (10, 42, 2, 0, []))
    obtain ⟨n5, l5, h⟩ := v_al h (by decide +kernel : pins 153 42 = some (5, 43, 0, 0, [])) (v := t) rfl
    obtain ⟨n6, l6, h⟩ := w_row (k := 32) W h (by decide +kernel : pins 153 43 = some (22, 46, 13, 32, [])) (by decide)
    obtain ⟨n7, l7, h⟩ := v_il h (by decide +kernel : pins 153 46 = some (3, 47, 1, 0, [])) (v := hh) rfl
    obtain ⟨n8, w47, l8, b47, e47, h⟩ := w_iald W h (by decide +kernel : pins 153 47 = some (24, 48, 0, 0, [])) (by decide)
    obtain ⟨n9, w48, l9, e48, h⟩ := u_add h (by decide +kernel : pins 153 48 = some (10, 49, 0, 0, []))
    obtain ⟨n10, l10, ⟨c49, h⟩ | ⟨c49, h⟩⟩ := u_ic3 h (by decide +kernel : pins 153 49 = some (17, 52, 3, ((176 : Nat) : Int), []))
    · have h := prun_lv h (lv' := [(7, .int c), (6, .int a), (0, .ref t), (1, .int hh), (2, .int sort), (3, .ref (A k)), (4, .int i), (5, .int kn)]) (lvLe.cons (lvLe.cons (lvLe.cons (lvLe.cons (lvLe.cons (lvLe.cons (lvLe.cons (lvLe.cons lvLe.nil rfl) rfl) rfl) rfl) rfl) rfl) rfl) rfl) (by decide : ([7, 6, 0, 1, 2, 3, 4, 5] : List Nat).Nodup) (by decide : ([7, 6, 0, 1, 2, 3, 4, 5] : List Nat).Nodup)
      exact ⟨_, _, σ, SP.rf W, FrZ.rf, h⟩
    · obtain ⟨n11, l11, h⟩ := v_il h (by decide +kernel : pins 153 52 = some (3, 54, 5, 0, [])) (v := kn) rfl
      obtain ⟨n12, l12, ⟨c54, h⟩ | ⟨c54, h⟩⟩ := u_if0 h (by decide +kernel : pins 153 54 = some (16, 57, 0, ((176 : Nat) : Int), []))
      · have h := prun_lv h (lv' := [(7, .int c), (6, .int a), (0, .ref t), (1, .int hh), (2, .int sort), (3, .ref (A k)), (4, .int i), (5, .int kn)]) (lvLe.cons (lvLe.cons (lvLe.cons (lvLe.cons (lvLe.cons (lvLe.cons (lvLe.cons (lvLe.cons lvLe.nil rfl) rfl) rfl) rfl) rfl) rfl) rfl) rfl) (by decide : ([7, 6, 0, 1, 2, 3, 4, 5] : List Nat).Nodup) (by decide : ([7, 6, 0, 1, 2, 3, 4, 5] : List Nat).Nodup)
        exact ⟨_, _, σ, SP.rf W, FrZ.rf, h⟩
      · obtain ⟨n13, l13, h⟩ := v_al h (by decide +kernel : pins 153 57 = some (5, 58, 0, 0, [])) (v := t) rfl
        obtain ⟨n14, l14, h⟩ := w_row (k := 52) W h (by decide +kernel : pins 153 58 = some (22, 61, 13, 52, [])) (by decide)
        obtain ⟨n15, l15, h⟩ := v_il h (by decide +kernel : pins 153 61 = some (3, 63, 6, 0, [])) (v := a) rfl
        obtain ⟨n16, w63, l16, b63, e63, h⟩ := w_iald W h (by decide +kernel : pins 153 63 = some (24, 64, 0, 0, [])) (by decide)
        obtain ⟨n17, w64, l17, ⟨e64, i64⟩, h⟩ := u_ic h (by decide +kernel : pins 153 64 = some (0, 66, 8, 0, [])) (by decide)
        obtain ⟨n18, l18, ⟨c66, h⟩ | ⟨c66, h⟩⟩ := u_ic3 h (by decide +kernel : pins 153 66 = some (17, 69, 3, ((176 : Nat) : Int), []))
        · have h := prun_lv h (lv' := [(7, .int c), (6, .int a), (0, .ref t), (1, .int hh), (2, .int sort), (3, .ref (A k)), (4, .int i), (5, .int kn)]) (lvLe.cons (lvLe.cons (lvLe.cons (lvLe.cons (lvLe.cons (lvLe.cons (lvLe.cons (lvLe.cons lvLe.nil rfl) rfl) rfl) rfl) rfl) rfl) rfl) rfl) (by decide : ([7, 6, 0, 1, 2, 3, 4, 5] : List Nat).Nodup) (by decide : ([7, 6, 0, 1, 2, 3, 4, 5] : List Nat).Nodup)
          exact ⟨_, _, σ, SP.rf W, FrZ.rf, h⟩
        · obtain ⟨n19, l19, h⟩ := v_al h (by decide +kernel : pins 153 69 = some (5, 70, 0, 0, [])) (v := t) rfl
          obtain ⟨n20, l20, h⟩ := w_row (k := 33) W h (by decide +kernel : pins 153 70 = some (22, 73, 13, 33, [])) (by decide)
          obtain ⟨n21, l21, h⟩ := v_il h (by decide +kernel : pins 153 73 = some (3, 75, 7, 0, [])) (v := c) rfl
          obtain ⟨n22, w75, l22, b75, e75, h⟩ := w_iald W h (by decide +kernel : pins 153 75 = some (24, 76, 0, 0, [])) (by decide)
          obtain ⟨n23, l23, h⟩ := v_il h (by decide +kernel : pins 153 76 = some (3, 77, 2, 0, [])) (v := sort) rfl
          obtain ⟨n24, l24, ⟨c77, h⟩ | ⟨c77, h⟩⟩ := u_ic1 h (by decide +kernel : pins 153 77 = some (17, 80, 1, ((170 : Nat) : Int), []))
          · obtain ⟨n25, w170, l25, e170, h⟩ := u_inc h (by decide +kernel : pins 153 170 = some (9, 173, 7, 1, [])) (v := c) rfl
            have h : prun n25 153 173 [(7, .int w170), (6, .int a), (0, .ref t), (1, .int hh), (2, .int sort), (3, .ref (A k)), (4, .int i), (5, .int kn)] [] σ = some x := h
            obtain ⟨n26, l26, h⟩ := u_go h (by decide +kernel : pins 153 173 = some (20, 176, 0, ((36 : Nat) : Int), []))
            have h := prun_lv h (lv' := [(7, .int w170), (6, .int a), (0, .ref t), (1, .int hh), (2, .int sort), (3, .ref (A k)), (4, .int i), (5, .int kn)]) (lvLe.cons (lvLe.cons (lvLe.cons (lvLe.cons (lvLe.cons (lvLe.cons (lvLe.cons (lvLe.cons lvLe.nil rfl) rfl) rfl) rfl) rfl) rfl) rfl) rfl) (by decide : ([7, 6, 0, 1, 2, 3, 4, 5] : List Nat).Nodup) (by decide : ([7, 6, 0, 1, 2, 3, 4, 5] : List Nat).Nodup)
            exact ih n26 (by omega) _ _ x W I h
          · obtain ⟨n27, l27, h⟩ := v_al h (by decide +kernel : pins 153 80 = some (5, 81, 0, 0, [])) (v := t) rfl
            obtain ⟨n28, l28, h⟩ := w_row (k := 40) W h (by decide +kernel : pins 153 81 = some (22, 84, 13, 40, [])) (by decide)
            obtain ⟨n29, w84, l29, ⟨e84, i84⟩, h⟩ := u_ic h (by decide +kernel : pins 153 84 = some (0, 86, 16, 0, [])) (by decide)
            obtain ⟨n30, l30, h⟩ := v_il h (by decide +kernel : pins 153 86 = some (3, 88, 7, 0, [])) (v := c) rfl
            obtain ⟨n31, w88, l31, e88, h⟩ := u_mul h (by decide +kernel : pins 153 88 = some (10, 89, 2, 0, []))
            obtain ⟨n32, l32, h⟩ := v_al h (by decide +kernel : pins 153 89 = some (5, 90, 3, 0, [])) (v := (A k)) rfl
            obtain ⟨n33, l33, h⟩ := v_il h (by decide +kernel : pins 153 90 = some (3, 92, 4, 0, [])) (v := i) rfl
            obtain ⟨n34, r92, s92, l34, h92, h⟩ := pinv_call h (by decide +kernel : pins 153 92 = some (36, 95, 140, 1, [4]))
            have h92 : prun n34 140 0 (lv_args 0 [.ref (A 40), .int w88, .ref (A k), .int i]) [] σ = some (r92, s92) := h92
            obtain ⟨es92, w92, er92, f92⟩ := pc_alike0 W h92 (by decide) hk
            have er92 : r92 = some (.int w92) := er92
            have et92 : s92 = σ := es92
            rw [et92] at h
            subst er92
            have h : prun n34 153 95 [(7, .int c), (6, .int a), (0, .ref t), (1, .int hh), (2, .int sort), (3, .ref (A k)), (4, .int i), (5, .int kn)] [.int w92] σ = some x := h
            obtain ⟨n35, l35, ⟨c95, h⟩ | ⟨c95, h⟩⟩ := u_if0 h (by decide +kernel : pins 153 95 = some (16, 98, 0, ((170 : Nat) : Int), []))
            · obtain ⟨n36, w170, l36, e170, h⟩ := u_inc h (by decide +kernel : pins 153 170 = some (9, 173, 7, 1, [])) (v := c) rfl
              have h : prun n36 153 173 [(7, .int w170), (6, .int a), (0, .ref t), (1, .int hh), (2, .int sort), (3, .ref (A k)), (4, .int i), (5, .int kn)] [] σ = some x := h
              obtain ⟨n37, l37, h⟩ := u_go h (by decide +kernel : pins 153 173 = some (20, 176, 0, ((36 : Nat) : Int), []))
              have h := prun_lv h (lv' := [(7, .int w170), (6, .int a), (0, .ref t), (1, .int hh), (2, .int sort), (3, .ref (A k)), (4, .int i), (5, .int kn)]) (lvLe.cons (lvLe.cons (lvLe.cons (lvLe.cons (lvLe.cons (lvLe.cons (lvLe.cons (lvLe.cons lvLe.nil rfl) rfl) rfl) rfl) rfl) rfl) rfl) rfl) (by decide : ([7, 6, 0, 1, 2, 3, 4, 5] : List Nat).Nodup) (by decide : ([7, 6, 0, 1, 2, 3, 4, 5] : List Nat).Nodup)
              exact ih n37 (by omega) _ _ x W I h
            · obtain ⟨n38, w98, l38, e98, h⟩ := u_lc h (by decide +kernel : pins 153 98 = some (1, 101, 2, 0, []))
              have i98 : w98.toInt = 2 := by rw [e98]; decide
              obtain ⟨n39, l39, h⟩ := v_al h (by decide +kernel : pins 153 101 = some (5, 102, 0, 0, [])) (v := t) rfl
              obtain ⟨n40, l40, h⟩ := w_row (k := 37) W h (by decide +kernel : pins 153 102 = some (22, 105, 13, 37, [])) (by decide)
              obtain ⟨n41, l41, h⟩ := v_il h (by decide +kernel : pins 153 105 = some (3, 107, 7, 0, [])) (v := c) rfl
              obtain ⟨n42, w107, l42, b107, e107, h⟩ := w_lald W h (by decide +kernel : pins 153 107 = some (26, 108, 0, 0, [])) (by decide)
              obtain ⟨n43, l43, h⟩ := v_al h (by decide +kernel : pins 153 108 = some (5, 109, 0, 0, [])) (v := t) rfl
              obtain ⟨n44, w109, l44, e109, h⟩ := w_fl W h (by decide +kernel : pins 153 109 = some (22, 112, 13, 0, []))
              obtain ⟨n45, w112, l45, e112, h⟩ := u_lsub h (by decide +kernel : pins 153 112 = some (11, 113, 1, 0, []))
              obtain ⟨n46, w113, l46, e113, h⟩ := u_lmul h (by decide +kernel : pins 153 113 = some (11, 114, 2, 0, []))
              obtain ⟨n47, l47, h⟩ := v_al h (by decide +kernel : pins 153 114 = some (5, 115, 0, 0, [])) (v := t) rfl
              obtain ⟨n48, l48, h⟩ := w_row (k := 35) W h (by decide +kernel : pins 153 115 = some (22, 118, 13, 35, [])) (by decide)
              obtain ⟨n49, l49, h⟩ := v_il h (by decide +kernel : pins 153 118 = some (3, 120, 7, 0, [])) (v := c) rfl
              obtain ⟨n50, w120, l50, b120, e120, h⟩ := w_iald W h (by decide +kernel : pins 153 120 = some (24, 121, 0, 0, [])) (by decide)
              obtain ⟨n51, w121, l51, e121, h⟩ := u_i2l h (by decide +kernel : pins 153 121 = some (13, 122, 0, 0, []))
              obtain ⟨n52, w122, l52, e122, h⟩ := u_lcmp h (by decide +kernel : pins 153 122 = some (12, 123, 0, 0, []))
              obtain ⟨n53, l53, ⟨c123, h⟩ | ⟨c123, h⟩⟩ := u_if4 h (by decide +kernel : pins 153 123 = some (16, 126, 4, ((129 : Nat) : Int), []))
              · obtain ⟨n54, l54, h⟩ := v_al h (by decide +kernel : pins 153 129 = some (5, 130, 0, 0, [])) (v := t) rfl
                obtain ⟨n55, l55, h⟩ := w_row (k := 52) W h (by decide +kernel : pins 153 130 = some (22, 133, 13, 52, [])) (by decide)
                obtain ⟨n56, l56, h⟩ := v_il h (by decide +kernel : pins 153 133 = some (3, 135, 6, 0, [])) (v := a) rfl
                obtain ⟨n57, l57, h⟩ := v_dup2 h (by decide +kernel : pins 153 135 = some (35, 136, 0, 0, []))
                obtain ⟨n58, w136, l58, b136, e136, h⟩ := w_iald W h (by decide +kernel : pins 153 136 = some (24, 137, 0, 0, [])) (by decide)
                obtain ⟨n59, w137, l59, ⟨e137, i137⟩, h⟩ := u_ic h (by decide +kernel : pins 153 137 = some (0, 138, 1, 0, [])) (by decide)
                obtain ⟨n60, w138, l60, e138, h⟩ := u_add h (by decide +kernel : pins 153 138 = some (10, 139, 0, 0, []))
                obtain ⟨n61, s139, l61, b139, S139, u139, h⟩ := w_iast W h (by decide +kernel : pins 153 139 = some (28, 140, 0, 0, [])) (by decide)
                obtain ⟨n62, l62, h⟩ := v_il h (by decide +kernel : pins 153 140 = some (3, 141, 2, 0, [])) (v := sort) rfl
                obtain ⟨n63, w141, l63, ⟨e141, i141⟩, h⟩ := u_ic h (by decide +kernel : pins 153 141 = some (0, 142, 2, 0, [])) (by decide)
                obtain ⟨n64, l64, ⟨c142, h⟩ | ⟨c142, h⟩⟩ := u_ic1 h (by decide +kernel : pins 153 142 = some (17, 145, 1, ((158 : Nat) : Int), []))
                · obtain ⟨n65, l65, h⟩ := v_al h (by decide +kernel : pins 153 158 = some (5, 159, 0, 0, [])) (v := t) rfl
                  obtain ⟨n66, l66, h⟩ := v_al h (by decide +kernel : pins 153 159 = some (5, 160, 0, 0, [])) (v := t) rfl
                  obtain ⟨n67, l67, h⟩ := w_row (k := 34) S139.1 h (by decide +kernel : pins 153 160 = some (22, 163, 13, 34, [])) (by decide)
                  obtain ⟨n68, l68, h⟩ := v_il h (by decide +kernel : pins 153 163 = some (3, 165, 7, 0, [])) (v := c) rfl
                  obtain ⟨n69, w165, l69, b165, e165, h⟩ := w_iald S139.1 h (by decide +kernel : pins 153 165 = some (24, 166, 0, 0, [])) (by decide)
                  obtain ⟨n70, w166, l70, ⟨e166, i166⟩, h⟩ := u_ic h (by decide +kernel : pins 153 166 = some (0, 167, 2, 0, [])) (by decide)
                  obtain ⟨n71, r167, s167, l71, h167, h⟩ := pinv_call h (by decide +kernel : pins 153 167 = some (36, 170, 145, 0, [3]))
                  have h167 : prun n71 145 0 (lv_args 0 [.ref t, .int w165, .int w166]) [] s139 = some (r167, s167) := h167
                  obtain ⟨er167, S167, p167, g167, y167⟩ := pc_put S139.1 h167 (by rw [e166]; decide)
                  have er167 : r167 = none := er167
                  subst er167
                  try dsimp only at S167
                  try dsimp only at p167
                  try dsimp only at g167
                  try dsimp only at y167
                  have h : prun n71 153 170 [(7, .int c), (6, .int a), (0, .ref t), (1, .int hh), (2, .int sort), (3, .ref (A k)), (4, .int i), (5, .int kn)] [] s167 = some x := h
                  obtain ⟨n72, w170, l72, e170, h⟩ := u_inc h (by decide +kernel : pins 153 170 = some (9, 173, 7, 1, [])) (v := c) rfl
                  have h : prun n72 153 173 [(7, .int w170), (6, .int a), (0, .ref t), (1, .int hh), (2, .int sort), (3, .ref (A k)), (4, .int i), (5, .int kn)] [] s167 = some x := h
                  obtain ⟨n73, l73, h⟩ := u_go h (by decide +kernel : pins 153 173 = some (20, 176, 0, ((36 : Nat) : Int), []))
                  have h := prun_lv h (lv' := [(7, .int w170), (6, .int a), (0, .ref t), (1, .int hh), (2, .int sort), (3, .ref (A k)), (4, .int i), (5, .int kn)]) (lvLe.cons (lvLe.cons (lvLe.cons (lvLe.cons (lvLe.cons (lvLe.cons (lvLe.cons (lvLe.cons lvLe.nil rfl) rfl) rfl) rfl) rfl) rfl) rfl) rfl) (by decide : ([7, 6, 0, 1, 2, 3, 4, 5] : List Nat).Nodup) (by decide : ([7, 6, 0, 1, 2, 3, 4, 5] : List Nat).Nodup)
                  have b139 : 0 ≤ a.toInt ∧ a.toInt < 260 := b139
                  have G139 : FrZ (vw t A σ) (vw t A s139) := ⟨fun j q hj => by rw [u139, up_ne (by omega)], by rw [u139, gI_ni (by decide) (by show ¬ 0 = a.toInt.toNat; omega)], fun h => by rw [u139, gI_ne (by decide)]; exact h⟩
                  have F167 := put_fro p167 g167 (by rw [i166]; decide)
                  have G : FrZ (vw t A σ) (vw t A s167) := G139.tr (F167.z (G139.2.2 I))
                  obtain ⟨m, c2, σ2, y1, y2, y3⟩ := ih n73 (by omega) _ _ x S167.1 (G.2.2 I) h
                  exact ⟨m, c2, σ2, (S139.tr S167).tr y1, G.tr y2, y3⟩
                · obtain ⟨n74, l74, h⟩ := v_al h (by decide +kernel : pins 153 145 = some (5, 146, 0, 0, [])) (v := t) rfl
                  obtain ⟨n75, l75, h⟩ := v_al h (by decide +kernel : pins 153 146 = some (5, 147, 0, 0, [])) (v := t) rfl
                  obtain ⟨n76, l76, h⟩ := w_row (k := 41) S139.1 h (by decide +kernel : pins 153 147 = some (22, 150, 13, 41, [])) (by decide)
                  obtain ⟨n77, w150, l77, ⟨e150, i150⟩, h⟩ := u_ic h (by decide +kernel : pins 153 150 = some (0, 152, 16, 0, [])) (by decide)
                  obtain ⟨n78, l78, h⟩ := v_il h (by decide +kernel : pins 153 152 = some (3, 154, 7, 0, [])) (v := c) rfl
                  obtain ⟨n79, w154, l79, e154, h⟩ := u_mul h (by decide +kernel : pins 153 154 = some (10, 155, 2, 0, []))
                  obtain ⟨n80, r155, s155, l80, h155, h⟩ := pinv_call h (by decide +kernel : pins 153 155 = some (36, 158, 146, 0, [3]))
                  have h155 : prun n80 146 0 (lv_args 0 [.ref t, .ref (A 41), .int w154]) [] s139 = some (r155, s155) := h155
                  obtain ⟨er155, S155, o155⟩ := pc_putWord S139.1 h155 (by decide)
                  have er155 : r155 = none := er155
                  subst er155
                  try dsimp only at S155
                  try dsimp only at o155
                  have h : prun n80 153 158 [(7, .int c), (6, .int a), (0, .ref t), (1, .int hh), (2, .int sort), (3, .ref (A k)), (4, .int i), (5, .int kn)] [] s155 = some x := h
                  obtain ⟨n81, l81, h⟩ := v_al h (by decide +kernel : pins 153 158 = some (5, 159, 0, 0, [])) (v := t) rfl
                  obtain ⟨n82, l82, h⟩ := v_al h (by decide +kernel : pins 153 159 = some (5, 160, 0, 0, [])) (v := t) rfl
                  obtain ⟨n83, l83, h⟩ := w_row (k := 34) S155.1 h (by decide +kernel : pins 153 160 = some (22, 163, 13, 34, [])) (by decide)
                  obtain ⟨n84, l84, h⟩ := v_il h (by decide +kernel : pins 153 163 = some (3, 165, 7, 0, [])) (v := c) rfl
                  obtain ⟨n85, w165, l85, b165, e165, h⟩ := w_iald S155.1 h (by decide +kernel : pins 153 165 = some (24, 166, 0, 0, [])) (by decide)
                  obtain ⟨n86, w166, l86, ⟨e166, i166⟩, h⟩ := u_ic h (by decide +kernel : pins 153 166 = some (0, 167, 2, 0, [])) (by decide)
                  obtain ⟨n87, r167, s167, l87, h167, h⟩ := pinv_call h (by decide +kernel : pins 153 167 = some (36, 170, 145, 0, [3]))
                  have h167 : prun n87 145 0 (lv_args 0 [.ref t, .int w165, .int w166]) [] s155 = some (r167, s167) := h167
                  obtain ⟨er167, S167, p167, g167, y167⟩ := pc_put S155.1 h167 (by rw [e166]; decide)
                  have er167 : r167 = none := er167
                  subst er167
                  try dsimp only at S167
                  try dsimp only at p167
                  try dsimp only at g167
                  try dsimp only at y167
                  have h : prun n87 153 170 [(7, .int c), (6, .int a), (0, .ref t), (1, .int hh), (2, .int sort), (3, .ref (A k)), (4, .int i), (5, .int kn)] [] s167 = some x := h
                  obtain ⟨n88, w170, l88, e170, h⟩ := u_inc h (by decide +kernel : pins 153 170 = some (9, 173, 7, 1, [])) (v := c) rfl
                  have h : prun n88 153 173 [(7, .int w170), (6, .int a), (0, .ref t), (1, .int hh), (2, .int sort), (3, .ref (A k)), (4, .int i), (5, .int kn)] [] s167 = some x := h
                  obtain ⟨n89, l89, h⟩ := u_go h (by decide +kernel : pins 153 173 = some (20, 176, 0, ((36 : Nat) : Int), []))
                  have h := prun_lv h (lv' := [(7, .int w170), (6, .int a), (0, .ref t), (1, .int hh), (2, .int sort), (3, .ref (A k)), (4, .int i), (5, .int kn)]) (lvLe.cons (lvLe.cons (lvLe.cons (lvLe.cons (lvLe.cons (lvLe.cons (lvLe.cons (lvLe.cons lvLe.nil rfl) rfl) rfl) rfl) rfl) rfl) rfl) rfl) (by decide : ([7, 6, 0, 1, 2, 3, 4, 5] : List Nat).Nodup) (by decide : ([7, 6, 0, 1, 2, 3, 4, 5] : List Nat).Nodup)
                  have b139 : 0 ≤ a.toInt ∧ a.toInt < 260 := b139
                  have G139 : FrZ (vw t A σ) (vw t A s139) := ⟨fun j q hj => by rw [u139, up_ne (by omega)], by rw [u139, gI_ni (by decide) (by show ¬ 0 = a.toInt.toNat; omega)], fun h => by rw [u139, gI_ne (by decide)]; exact h⟩
                  have G155 : FrZ _ (vw t A s155) := FrO.z o155 (G139.2.2 I)
                  have F167 := put_fro p167 g167 (by rw [i166]; decide)
                  have G : FrZ (vw t A σ) (vw t A s167) := (G139.tr G155).tr (F167.z (G155.2.2 (G139.2.2 I)))
                  obtain ⟨m, c2, σ2, y1, y2, y3⟩ := ih n89 (by omega) _ _ x S167.1 (G.2.2 I) h
                  exact ⟨m, c2, σ2, ((S139.tr S155).tr S167).tr y1, G.tr y2, y3⟩
              · obtain ⟨n90, l90, h⟩ := u_go h (by decide +kernel : pins 153 126 = some (20, 129, 0, ((170 : Nat) : Int), []))
                obtain ⟨n91, w170, l91, e170, h⟩ := u_inc h (by decide +kernel : pins 153 170 = some (9, 173, 7, 1, [])) (v := c) rfl
                have h : prun n91 153 173 [(7, .int w170), (6, .int a), (0, .ref t), (1, .int hh), (2, .int sort), (3, .ref (A k)), (4, .int i), (5, .int kn)] [] σ = some x := h
                obtain ⟨n92, l92, h⟩ := u_go h (by decide +kernel : pins 153 173 = some (20, 176, 0, ((36 : Nat) : Int), []))
                have h := prun_lv h (lv' := [(7, .int w170), (6, .int a), (0, .ref t), (1, .int hh), (2, .int sort), (3, .ref (A k)), (4, .int i), (5, .int kn)]) (lvLe.cons (lvLe.cons (lvLe.cons (lvLe.cons (lvLe.cons (lvLe.cons (lvLe.cons (lvLe.cons lvLe.nil rfl) rfl) rfl) rfl) rfl) rfl) rfl) rfl) (by decide : ([7, 6, 0, 1, 2, 3, 4, 5] : List Nat).Nodup) (by decide : ([7, 6, 0, 1, 2, 3, 4, 5] : List Nat).Nodup)
                exact ih n92 (by omega) _ _ x W I h
theorem pc_sendAsk {t n : Nat} {A : Nat → Nat} {hh sort i kn : Int32} {k : Nat} {σ : ps} {x : Option Value × ps} (W : Wld t A σ) (h : prun n 153 0 (lv_args 0 [.ref t, .int hh, .int sort, .ref (A k), .int i, .int kn]) [] σ = some x) (hk : isRw k = true) (HA : 0 ≤ (gI (vw t A σ) 46 0).toInt ∧ (gI (vw t A σ) 46 0).toInt < 800) (HM : 0 ≤ (gI (vw t A σ) 47 0).toInt ∧ (gI (vw t A σ) 47 0).toInt ≤ 1000) : x.1 = none ∧ SP t A σ x.2 ∧ FrS (vw t A σ) (vw t A x.2) ∧ Snd (vw t A σ) (vw t A x.2) 8 := by
  have h : prun n 153 0 [(0, .ref t), (1, .int hh), (2, .int sort), (3, .ref (A k)), (4, .int i), (5, .int kn)] [] σ = some x := h
  obtain ⟨n1, l1, h⟩ := v_al h (by decide +kernel : pins 153 0 = some (5, 1, 0, 0, [])) (v := t) rfl
  obtain ⟨n2, w1, l2, ⟨e1, i1⟩, h⟩ := u_ic h (by decide +kernel : pins 153 1 = some (0, 2, 4, 0, [])) (by decide)
  obtain ⟨n3, r2, s2, l3, h2, h⟩ := pinv_call h (by decide +kernel : pins 153 2 = some (36, 5, 144, 0, [2]))
  have h2 : prun n3 144 0 (lv_args 0 [.ref t, .int w1]) [] σ = some (r2, s2) := h2
  obtain ⟨er2, S2, v2⟩ := pc_begin W h2
  have er2 : r2 = none := er2
  subst er2
  try dsimp only at S2
  try dsimp only at v2
  have h : prun n3 153 5 [(0, .ref t), (1, .int hh), (2, .int sort), (3, .ref (A k)), (4, .int i), (5, .int kn)] [] s2 = some x := h
  obtain ⟨n4, l4, h⟩ := v_al h (by decide +kernel : pins 153 5 = some (5, 6, 0, 0, [])) (v := t) rfl
  obtain ⟨n5, l5, h⟩ := v_il h (by decide +kernel : pins 153 6 = some (3, 7, 2, 0, [])) (v := sort) rfl
  obtain ⟨n6, w7, l6, ⟨e7, i7⟩, h⟩ := u_ic h (by decide +kernel : pins 153 7 = some (0, 8, 1, 0, [])) (by decide)
  obtain ⟨n7, r8, s8, l7, h8, h⟩ := pinv_call h (by decide +kernel : pins 153 8 = some (36, 11, 145, 0, [3]))
  have h8 : prun n7 145 0 (lv_args 0 [.ref t, .int sort, .int w7]) [] s2 = some (r8, s8) := h8
  obtain ⟨er8, S8, p8, g8, y8⟩ := pc_put S2.1 h8 (by rw [e7]; decide)
  have er8 : r8 = none := er8
  subst er8
  try dsimp only at S8
  try dsimp only at p8
  try dsimp only at g8
  try dsimp only at y8
  have h : prun n7 153 11 [(0, .ref t), (1, .int hh), (2, .int sort), (3, .ref (A k)), (4, .int i), (5, .int kn)] [] s8 = some x := h
  obtain ⟨n8, l8, h⟩ := v_al h (by decide +kernel : pins 153 11 = some (5, 12, 0, 0, [])) (v := t) rfl
  obtain ⟨n9, l9, h⟩ := v_al h (by decide +kernel : pins 153 12 = some (5, 13, 3, 0, [])) (v := (A k)) rfl
  obtain ⟨n10, l10, h⟩ := v_il h (by decide +kernel : pins 153 13 = some (3, 15, 4, 0, [])) (v := i) rfl
  obtain ⟨n11, r15, s15, l11, h15, h⟩ := pinv_call h (by decide +kernel : pins 153 15 = some (36, 18, 146, 0, [3]))
  have h15 : prun n11 146 0 (lv_args 0 [.ref t, .ref (A k), .int i]) [] s8 = some (r15, s15) := h15
  obtain ⟨er15, S15, o15⟩ := pc_putWord S8.1 h15 hk
  have er15 : r15 = none := er15
  subst er15
  try dsimp only at S15
  try dsimp only at o15
  have h : prun n11 153 18 [(0, .ref t), (1, .int hh), (2, .int sort), (3, .ref (A k)), (4, .int i), (5, .int kn)] [] s15 = some x := h
  obtain ⟨n12, l12, h⟩ := v_al h (by decide +kernel : pins 153 18 = some (5, 19, 0, 0, [])) (v := t) rfl
  obtain ⟨n13, w19, l13, e19, h⟩ := w_fi (k := 53) S15.1 h (by decide +kernel : pins 153 19 = some (22, 22, 13, 53, [])) (by decide)
  obtain ⟨n14, l14, h⟩ := v_is h (by decide +kernel : pins 153 22 = some (6, 24, 6, 0, []))
  have h : prun n14 153 24 [(6, .int w19), (0, .ref t), (1, .int hh), (2, .int sort), (3, .ref (A k)), (4, .int i), (5, .int kn)] [] s15 = some x := h
  obtain ⟨n15, l15, h⟩ := v_al h (by decide +kernel : pins 153 24 = some (5, 25, 0, 0, [])) (v := t) rfl
  obtain ⟨n16, w25, l16, ⟨e25, i25⟩, h⟩ := u_ic h (by decide +kernel : pins 153 25 = some (0, 26, 0, 0, [])) (by decide)
  obtain ⟨n17, w26, l17, ⟨e26, i26⟩, h⟩ := u_ic h (by decide +kernel : pins 153 26 = some (0, 27, 1, 0, [])) (by decide)
  obtain ⟨n18, r27, s27, l18, h27, h⟩ := pinv_call h (by decide +kernel : pins 153 27 = some (36, 30, 145, 0, [3]))
  have h27 : prun n18 145 0 (lv_args 0 [.ref t, .int w25, .int w26]) [] s15 = some (r27, s27) := h27
  obtain ⟨er27, S27, p27, g27, y27⟩ := pc_put S15.1 h27 (by rw [e26]; decide)
  have er27 : r27 = none := er27
  subst er27
  try dsimp only at S27
  try dsimp only at p27
  try dsimp only at g27
  try dsimp only at y27
  have h : prun n18 153 30 [(6, .int w19), (0, .ref t), (1, .int hh), (2, .int sort), (3, .ref (A k)), (4, .int i), (5, .int kn)] [] s27 = some x := h
  obtain ⟨n19, w30, l19, ⟨e30, i30⟩, h⟩ := u_ic h (by decide +kernel : pins 153 30 = some (0, 32, 24, 0, [])) (by decide)
  obtain ⟨n20, l20, h⟩ := v_il h (by decide +kernel : pins 153 32 = some (3, 33, 1, 0, [])) (v := hh) rfl
  obtain ⟨n21, w33, l21, e33, h⟩ := u_mul h (by decide +kernel : pins 153 33 = some (10, 34, 2, 0, []))
  obtain ⟨n22, l22, h⟩ := v_is h (by decide +kernel : pins 153 34 = some (6, 36, 7, 0, []))
  have h : prun n22 153 36 [(7, .int w33), (6, .int w19), (0, .ref t), (1, .int hh), (2, .int sort), (3, .ref (A k)), (4, .int i), (5, .int kn)] [] s27 = some x := h
  have h := prun_lv h (lv' := [(7, .int w33), (6, .int w19), (0, .ref t), (1, .int hh), (2, .int sort), (3, .ref (A k)), (4, .int i), (5, .int kn)]) (lvLe.cons (lvLe.cons (lvLe.cons (lvLe.cons (lvLe.cons (lvLe.cons (lvLe.cons (lvLe.cons lvLe.nil rfl) rfl) rfl) rfl) rfl) rfl) rfl) rfl) (by decide : ([7, 6, 0, 1, 2, 3, 4, 5] : List Nat).Nodup) (by decide : ([7, 6, 0, 1, 2, 3, 4, 5] : List Nat).Nodup)
  obtain ⟨b1, b2, b3, b4, b5, b6⟩ := begin_ok v2
  have F8 := put_fro p8 g8 (by rw [i7]; decide)
  have F15 : FrO _ (vw t A s15) := o15
  have F27 := put_fro p27 g27 (by rw [i26]; decide)
  have q8 : (gI (vw t A s8) 53 0).toInt = 2 := by rw [g8, b2, i7]; rfl
  have q15 : 2 ≤ (gI (vw t A s15) 53 0).toInt := by have := o15.2; omega
  have F3 : FrO (vw t A s2) (vw t A s27) := (F8.tr F15).tr F27
  obtain ⟨m, c2, σ2, y1, y2, h⟩ := pc_sendAsk_l hk (by rw [e19]; omega) _ _ _ x S27.1 (by have := F3.2; omega) h
  have F : FrZ (vw t A s2) (vw t A σ2) := (F3.z (by omega)).tr y2
  obtain ⟨HA2, HM2⟩ := pre_snd4 v2 F HA HM
  obtain ⟨n501, l501, h⟩ := v_al h (by decide +kernel : pins 153 176 = some (5, 177, 0, 0, [])) (v := t) rfl
  obtain ⟨n502, l502, h⟩ := v_il h (by decide +kernel : pins 153 177 = some (3, 178, 1, 0, [])) (v := hh) rfl
  obtain ⟨n503, r178, s178, l503, h178, h⟩ := pinv_call h (by decide +kernel : pins 153 178 = some (36, 181, 147, 0, [2]))
  have h178 : prun n503 147 0 (lv_args 0 [.ref t, .int hh]) [] σ2 = some (r178, s178) := h178
  obtain ⟨er178, S178, m178, j178, k178, ra178, rb178⟩ := pc_send y1.1 h178 HA2 HM2
  have er178 : r178 = none := er178
  subst er178
  try dsimp only at S178
  try dsimp only at m178
  try dsimp only at j178
  try dsimp only at k178
  try dsimp only at ra178
  try dsimp only at rb178
  have h : prun n503 153 181 [(7, .int c2), (6, .int w19), (0, .ref t), (1, .int hh), (2, .int sort), (3, .ref (A k)), (4, .int i), (5, .int kn)] [] s178 = some x := h
  have ex := u_ret37 h (by decide +kernel : pins 153 181 = some (37, 182, 0, 0, []))
  subst ex
  obtain ⟨a1, p, a2, a3⟩ := all_snd4 v2 F (by rw [i1]; decide) m178 j178 k178 ra178 rb178
  have := a3 (Or.inr (Or.inr i1))
  subst this
  exact ⟨rfl, (((((S2.tr S8).tr S15).tr S27).tr y1).tr S178), a1, a2⟩
