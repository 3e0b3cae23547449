/-- an entry as it was, or dying -/
def EOld (V V' : Nat → Nat → Value) (k : Nat) : Prop := V' 35 k = V 35 k ∧ V' 36 k = V 36 k ∧ V' 39 k = V 39 k ∧ ((V' 38 k = V 38 k ∧ V' 37 k = V 37 k) ∨ (V' 38 k = .int 1 ∧ (V' 37 k = V 37 k ∨ ((gL V 0 0 + Int64.ofInt 1000).toInt < (gL V 37 k).toInt ∧ V' 37 k = .long (gL V 0 0 + Int64.ofInt 1000)))))
theorem EOld.rf {V : Nat → Nat → Value} {k : Nat} : EOld V V k := ⟨rfl, rfl, rfl, Or.inl ⟨rfl, rfl⟩⟩
theorem EOld.tr {V V1 V2 : Nat → Nat → Value} {k : Nat} (hT : gL V1 0 0 = gL V 0 0) (h : EOld V V1 k) (h1 : EOld V1 V2 k) : EOld V V2 k := by
  obtain ⟨a1, a2, a3, a4⟩ := h
  obtain ⟨b1, b2, b3, b4⟩ := h1
  refine ⟨b1.trans a1, b2.trans a2, b3.trans a3, ?_⟩
  rcases b4 with ⟨c1, c2⟩ | ⟨c1, c2⟩
  · rw [c1, c2]; exact a4
  · refine Or.inr ⟨c1, ?_⟩
    rcases a4 with ⟨d1, d2⟩ | ⟨d1, d2⟩
    · rcases c2 with c2 | ⟨c2, c3⟩
      · exact Or.inl (c2.trans d2)
      · refine Or.inr ⟨?_, by rw [c3, hT]⟩
        rw [hT] at c2
        unfold gL at c2 ⊢
        rw [d2] at c2
        exact c2
    · rcases c2 with c2 | ⟨c2, c3⟩
      · rw [c2]; exact d2
      · rcases d2 with d2 | ⟨d2, d3⟩
        · refine Or.inr ⟨?_, by rw [c3, hT]⟩
          rw [hT] at c2
          unfold gL at c2 ⊢
          rw [d2] at c2
          exact c2
        · exact Or.inr ⟨d2, by rw [c3, hT]⟩
def EFresh (V : Nat → Nat → Value) (k : Nat) (life : Int32) : Prop := V 35 k = .int life ∧ V 36 k = .long (gL V 0 0) ∧ V 37 k = .long (gL V 0 0 + life.toInt64) ∧ V 38 k = .int 0 ∧ V 39 k = .int 0
/-- entries may die, those of host h -/
def Dy (V V' : Nat → Nat → Value) (lo hi : Nat) (f : Int) : Prop := (∀ j q : Nat, ¬ (j = 37 ∨ j = 38) → V' j q = V j q) ∧ ∀ k, EOld V V' k ∧ ((k < lo ∨ hi ≤ k ∨ (k : Int) = f) → V' 37 k = V 37 k ∧ V' 38 k = V 38 k)
theorem Dy.rf {V : Nat → Nat → Value} {lo hi : Nat} {f : Int} : Dy V V lo hi f := ⟨fun _ _ _ => rfl, fun _ => ⟨EOld.rf, fun _ => ⟨rfl, rfl⟩⟩⟩
theorem Dy.tr {V V1 V2 : Nat → Nat → Value} {lo hi : Nat} {f : Int} (h : Dy V V1 lo hi f) (h1 : Dy V1 V2 lo hi f) : Dy V V2 lo hi f := ⟨fun j q hj => (h1.1 j q hj).trans (h.1 j q hj), fun k => ⟨EOld.tr (by unfold gL; rw [h.1 0 0 (by decide)]) (h.2 k).1 (h1.2 k).1, fun hk => ⟨((h1.2 k).2 hk).1.trans ((h.2 k).2 hk).1, ((h1.2 k).2 hk).2.trans ((h.2 k).2 hk).2⟩⟩⟩
theorem dies_Dy {V V' : Nat → Nat → Value} {k lo hi : Nat} {f : Int} (h : V' = up V 38 k (.int 1) ∨ ((gL V 0 0 + Int64.ofInt 1000).toInt < (gL V 37 k).toInt ∧ V' = up (up V 38 k (.int 1)) 37 k (.long (gL V 0 0 + Int64.ofInt 1000)))) (h1 : lo ≤ k) (h2 : k < hi) (h3 : ¬ (k : Int) = f) : Dy V V' lo hi f := by
  rcases h with e | ⟨e0, e⟩
  · refine ⟨fun j q hj => by rw [e, up_ne (by omega)], fun q => ⟨?_, fun hq => ?_⟩⟩
    · by_cases eq : q = k
      · subst eq
        exact ⟨by rw [e, up_ne (by decide)], by rw [e, up_ne (by decide)], by rw [e, up_ne (by decide)], Or.inr ⟨by rw [e, up_eq], Or.inl (by rw [e, up_ne (by decide)])⟩⟩
      · exact ⟨by rw [e, up_ne (by decide)], by rw [e, up_ne (by decide)], by rw [e, up_ne (by decide)], Or.inl ⟨by rw [e, up_ni (by decide) eq], by rw [e, up_ne (by decide)]⟩⟩
    · rw [e, up_ne (by decide), up_ni (by decide) (by omega)]
      exact ⟨rfl, rfl⟩
  · refine ⟨fun j q hj => by rw [e, up_ne (by omega), up_ne (by omega)], fun q => ⟨?_, fun hq => ?_⟩⟩
    · by_cases eq : q = k
      · subst eq
        exact ⟨by rw [e, up_ne (by decide), up_ne (by decide)], by rw [e, up_ne (by decide), up_ne (by decide)], by rw [e, up_ne (by decide), up_ne (by decide)], Or.inr ⟨by rw [e, up_ne (by decide), up_eq], Or.inr ⟨e0, by rw [e, up_eq]⟩⟩⟩
      · exact ⟨by rw [e, up_ne (by decide), up_ne (by decide)], by rw [e, up_ne (by decide), up_ne (by decide)], by rw [e, up_ne (by decide), up_ne (by decide)], Or.inl ⟨by rw [e, up_ne (by decide), up_ni (by decide) eq], by rw [e, up_ni (by decide) eq, up_ne (by decide)]⟩⟩
    · rw [e, up_ni (by decide) (by omega), up_ne (by decide), up_ne (by decide), up_ni (by decide) (by omega)]
      exact ⟨rfl, rfl⟩
theorem pc_rec_b {t : Nat} {A : Nat → Nat} {hh th life sort r js : Int32} (hh0 : 0 ≤ hh.toInt ∧ hh.toInt ≤ 7) : ∀ (n : Nat) (c : Int32) (σ : ps) (x : Option Value × ps), Wld t A σ → (24 * hh.toInt ≤ c.toInt ∧ 0 ≤ (gI (vw t A σ) 32 hh.toNatClampNeg).toInt ∧ (gI (vw t A σ) 32 hh.toNatClampNeg).toInt ≤ 24) → prun n 178 439 [(7, .int js), (6, .int c), (5, .int th), (4, .int life), (3, .int sort), (0, .ref t), (1, .int hh), (2, .int r)] [] σ = some x → x.1 = none ∧ SP t A σ x.2 ∧ Dy (vw t A σ) (vw t A x.2) (24 * hh.toNatClampNeg) (24 * hh.toNatClampNeg + (gI (vw t A σ) 32 hh.toNatClampNeg).toNatClampNeg) th.toInt := by
  intro n
  induction n using Nat.strongRecOn with
  | ind n ih =>
    intro c σ x W I h
    obtain ⟨I1, I2, I3⟩ := I
    obtain ⟨n1, l1, h⟩ := v_il h (by decide +kernel : pins 178 439 = some (3, 441, 6, 0, [])) (v := c) rfl
    obtain ⟨n2, w441, l2, ⟨e441, i441⟩, h⟩ := u_ic h (by decide +kernel : pins 178 441 = some (0, 443, 24, 0, [])) (by decide)
    obtain ⟨n3, l3, h⟩ := v_il h (by decide +kernel : pins 178 443 = some (3, 444, 1, 0, [])) (v := hh) rfl
    obtain ⟨n4, w444, l4, e444, h⟩ := u_mul h (by decide +kernel : pins 178 444 = some (10, 445, 2, 0, []))
    obtain ⟨n5, l5, h⟩ := v_al h (by decide +kernel : pins 178 445 = some (5, 446, 0, 0, [])) (v := t) rfl
    obtain ⟨n6, l6, h⟩ := w_row (k := 32) W h (by decide +kernel : pins 178 446 = some (22, 449, 13, 32, [])) (by decide)
    obtain ⟨n7, l7, h⟩ := v_il h (by decide +kernel : pins 178 449 = some (3, 450, 1, 0, [])) (v := hh) rfl
    obtain ⟨n8, w450, l8, b450, e450, h⟩ := w_iald W h (by decide +kernel : pins 178 450 = some (24, 451, 0, 0, [])) (by decide)
    obtain ⟨n9, w451, l9, e451, h⟩ := u_add h (by decide +kernel : pins 178 451 = some (10, 452, 0, 0, []))
    obtain ⟨n10, l10, ⟨c452, h⟩ | ⟨c452, h⟩⟩ := u_ic3 h (by decide +kernel : pins 178 452 = some (17, 455, 3, ((527 : Nat) : Int), []))
    · have ex := u_ret37 h (by decide +kernel : pins 178 527 = some (37, 528, 0, 0, []))
      subst ex
      exact ⟨rfl, SP.rf W, Dy.rf⟩
    · obtain ⟨n12, l12, h⟩ := v_il h (by decide +kernel : pins 178 455 = some (3, 457, 6, 0, [])) (v := c) rfl
      obtain ⟨n13, l13, h⟩ := v_il h (by decide +kernel : pins 178 457 = some (3, 459, 5, 0, [])) (v := th) rfl
      obtain ⟨n14, l14, ⟨c459, h⟩ | ⟨c459, h⟩⟩ := u_ic0 h (by decide +kernel : pins 178 459 = some (17, 462, 0, ((521 : Nat) : Int), []))
      · obtain ⟨n15, w521, l15, e521, h⟩ := u_inc h (by decide +kernel : pins 178 521 = some (9, 524, 6, 1, [])) (v := c) rfl
        have h : prun n15 178 524 [(6, .int w521), (7, .int js), (5, .int th), (4, .int life), (3, .int sort), (0, .ref t), (1, .int hh), (2, .int r)] [] σ = some x := h
        obtain ⟨n16, l16, h⟩ := u_go h (by decide +kernel : pins 178 524 = some (20, 527, 0, ((439 : Nat) : Int), []))
        have h := prun_lv h (lv' := [(7, .int js), (6, .int w521), (5, .int th), (4, .int life), (3, .int sort), (0, .ref t), (1, .int hh), (2, .int r)]) (lvLe.cons (lvLe.cons (lvLe.cons (lvLe.cons (lvLe.cons (lvLe.cons (lvLe.cons (lvLe.cons lvLe.nil rfl) rfl) rfl) rfl) rfl) rfl) rfl) rfl) (by decide : ([6, 7, 5, 4, 3, 0, 1, 2] : List Nat).Nodup) (by decide : ([7, 6, 5, 4, 3, 0, 1, 2] : List Nat).Nodup)
        have hn : (hh.toNatClampNeg : Int) = hh.toInt := n_clamp hh0.1
        have q444 : w444.toInt = 24 * hh.toInt := by rw [e444, n_mul (by rw [i441]; omega) (by rw [i441]; omega), i441]
        have q450 : 0 ≤ w450.toInt ∧ w450.toInt ≤ 24 := by rw [e450]; exact ⟨I2, I3⟩
        have q451 : w451.toInt = 24 * hh.toInt + w450.toInt := by rw [addc e451 rfl (by omega) (by omega) (by omega) (by omega), q444]
        have q450' : w450.toInt = (gI (vw t A σ) 32 hh.toNatClampNeg).toInt := by rw [e450]
        have q521 : w521.toInt = c.toInt + 1 := addc e521 (by decide : (Int32.ofInt 1).toInt = 1) (by omega) (by omega) (by decide) (by decide)
        exact ih n16 (by omega) _ _ x W ⟨by omega, I2, I3⟩ h
      · obtain ⟨n17, l17, h⟩ := v_al h (by decide +kernel : pins 178 462 = some (5, 463, 0, 0, [])) (v := t) rfl
        obtain ⟨n18, l18, h⟩ := w_row (k := 33) W h (by decide +kernel : pins 178 463 = some (22, 466, 13, 33, [])) (by decide)
        obtain ⟨n19, l19, h⟩ := v_il h (by decide +kernel : pins 178 466 = some (3, 468, 6, 0, [])) (v := c) rfl
        obtain ⟨n20, w468, l20, b468, e468, h⟩ := w_iald W h (by decide +kernel : pins 178 468 = some (24, 469, 0, 0, [])) (by decide)
        obtain ⟨n21, l21, h⟩ := v_il h (by decide +kernel : pins 178 469 = some (3, 470, 3, 0, [])) (v := sort) rfl
        obtain ⟨n22, l22, ⟨c470, h⟩ | ⟨c470, h⟩⟩ := u_ic1 h (by decide +kernel : pins 178 470 = some (17, 473, 1, ((521 : Nat) : Int), []))
        · obtain ⟨n23, w521, l23, e521, h⟩ := u_inc h (by decide +kernel : pins 178 521 = some (9, 524, 6, 1, [])) (v := c) rfl
          have h : prun n23 178 524 [(6, .int w521), (7, .int js), (5, .int th), (4, .int life), (3, .int sort), (0, .ref t), (1, .int hh), (2, .int r)] [] σ = some x := h
          obtain ⟨n24, l24, h⟩ := u_go h (by decide +kernel : pins 178 524 = some (20, 527, 0, ((439 : Nat) : Int), []))
          have h := prun_lv h (lv' := [(7, .int js), (6, .int w521), (5, .int th), (4, .int life), (3, .int sort), (0, .ref t), (1, .int hh), (2, .int r)]) (lvLe.cons (lvLe.cons (lvLe.cons (lvLe.cons (lvLe.cons (lvLe.cons (lvLe.cons (lvLe.cons lvLe.nil rfl) rfl) rfl) rfl) rfl) rfl) rfl) rfl) (by decide : ([6, 7, 5, 4, 3, 0, 1, 2] : List Nat).Nodup) (by decide : ([7, 6, 5, 4, 3, 0, 1, 2] : List Nat).Nodup)
          have hn : (hh.toNatClampNeg : Int) = hh.toInt := n_clamp hh0.1
          have q444 : w444.toInt = 24 * hh.toInt := by rw [e444, n_mul (by rw [i441]; omega) (by rw [i441]; omega), i441]
          have q450 : 0 ≤ w450.toInt ∧ w450.toInt ≤ 24 := by rw [e450]; exact ⟨I2, I3⟩
          have q451 : w451.toInt = 24 * hh.toInt + w450.toInt := by rw [addc e451 rfl (by omega) (by omega) (by omega) (by omega), q444]
          have q450' : w450.toInt = (gI (vw t A σ) 32 hh.toNatClampNeg).toInt := by rw [e450]
          have q521 : w521.toInt = c.toInt + 1 := addc e521 (by decide : (Int32.ofInt 1).toInt = 1) (by omega) (by omega) (by decide) (by decide)
          exact ih n24 (by omega) _ _ x W ⟨by omega, I2, I3⟩ h
        · obtain ⟨n25, l25, h⟩ := v_al h (by decide +kernel : pins 178 473 = some (5, 474, 0, 0, [])) (v := t) rfl
          obtain ⟨n26, w474, l26, e474, h⟩ := w_fl W h (by decide +kernel : pins 178 474 = some (22, 477, 13, 0, []))
          obtain ⟨n27, l27, h⟩ := v_al h (by decide +kernel : pins 178 477 = some (5, 478, 0, 0, [])) (v := t) rfl
          obtain ⟨n28, l28, h⟩ := w_row (k := 36) W h (by decide +kernel : pins 178 478 = some (22, 481, 13, 36, [])) (by decide)
          obtain ⟨n29, l29, h⟩ := v_il h (by decide +kernel : pins 178 481 = some (3, 483, 6, 0, [])) (v := c) rfl
          obtain ⟨n30, w483, l30, b483, e483, h⟩ := w_lald W h (by decide +kernel : pins 178 483 = some (26, 484, 0, 0, [])) (by decide)
          obtain ⟨n31, w484, l31, e484, h⟩ := u_lsub h (by decide +kernel : pins 178 484 = some (11, 485, 1, 0, []))
          obtain ⟨n32, w485, l32, e485, h⟩ := u_lc h (by decide +kernel : pins 178 485 = some (1, 488, 1000, 0, []))
          have i485 : w485.toInt = 1000 := by rw [e485]; decide
          obtain ⟨n33, w488, l33, e488, h⟩ := u_lcmp h (by decide +kernel : pins 178 488 = some (12, 489, 0, 0, []))
          obtain ⟨n34, l34, ⟨c489, h⟩ | ⟨c489, h⟩⟩ := u_if5 h (by decide +kernel : pins 178 489 = some (16, 492, 5, ((521 : Nat) : Int), []))
          · obtain ⟨n35, w521, l35, e521, h⟩ := u_inc h (by decide +kernel : pins 178 521 = some (9, 524, 6, 1, [])) (v := c) rfl
            have h : prun n35 178 524 [(6, .int w521), (7, .int js), (5, .int th), (4, .int life), (3, .int sort), (0, .ref t), (1, .int hh), (2, .int r)] [] σ = some x := h
            obtain ⟨n36, l36, h⟩ := u_go h (by decide +kernel : pins 178 524 = some (20, 527, 0, ((439 : Nat) : Int), []))
            have h := prun_lv h (lv' := [(7, .int js), (6, .int w521), (5, .int th), (4, .int life), (3, .int sort), (0, .ref t), (1, .int hh), (2, .int r)]) (lvLe.cons (lvLe.cons (lvLe.cons (lvLe.cons (lvLe.cons (lvLe.cons (lvLe.cons (lvLe.cons lvLe.nil rfl) rfl) rfl) rfl) rfl) rfl) rfl) rfl) (by decide : ([6, 7, 5, 4, 3, 0, 1, 2] : List Nat).Nodup) (by decide : ([7, 6, 5, 4, 3, 0, 1, 2] : List Nat).Nodup)
            have hn : (hh.toNatClampNeg : Int) = hh.toInt := n_clamp hh0.1
            have q444 : w444.toInt = 24 * hh.toInt := by rw [e444, n_mul (by rw [i441]; omega) (by rw [i441]; omega), i441]
            have q450 : 0 ≤ w450.toInt ∧ w450.toInt ≤ 24 := by rw [e450]; exact ⟨I2, I3⟩
            have q451 : w451.toInt = 24 * hh.toInt + w450.toInt := by rw [addc e451 rfl (by omega) (by omega) (by omega) (by omega), q444]
            have q450' : w450.toInt = (gI (vw t A σ) 32 hh.toNatClampNeg).toInt := by rw [e450]
            have q521 : w521.toInt = c.toInt + 1 := addc e521 (by decide : (Int32.ofInt 1).toInt = 1) (by omega) (by omega) (by decide) (by decide)
            exact ih n36 (by omega) _ _ x W ⟨by omega, I2, I3⟩ h
          · obtain ⟨n37, l37, h⟩ := v_al h (by decide +kernel : pins 178 492 = some (5, 493, 0, 0, [])) (v := t) rfl
            obtain ⟨n38, l38, h⟩ := w_row (k := 40) W h (by decide +kernel : pins 178 493 = some (22, 496, 13, 40, [])) (by decide)
            obtain ⟨n39, w496, l39, ⟨e496, i496⟩, h⟩ := u_ic h (by decide +kernel : pins 178 496 = some (0, 498, 16, 0, [])) (by decide)
            obtain ⟨n40, l40, h⟩ := v_il h (by decide +kernel : pins 178 498 = some (3, 500, 6, 0, [])) (v := c) rfl
            obtain ⟨n41, w500, l41, e500, h⟩ := u_mul h (by decide +kernel : pins 178 500 = some (10, 501, 2, 0, []))
            obtain ⟨n42, l42, h⟩ := v_al h (by decide +kernel : pins 178 501 = some (5, 502, 0, 0, [])) (v := t) rfl
            obtain ⟨n43, l43, h⟩ := w_row (k := 62) W h (by decide +kernel : pins 178 502 = some (22, 505, 13, 62, [])) (by decide)
            obtain ⟨n44, w505, l44, ⟨e505, i505⟩, h⟩ := u_ic h (by decide +kernel : pins 178 505 = some (0, 507, 16, 0, [])) (by decide)
            obtain ⟨n45, l45, h⟩ := v_il h (by decide +kernel : pins 178 507 = some (3, 508, 2, 0, [])) (v := r) rfl
            obtain ⟨n46, w508, l46, e508, h⟩ := u_mul h (by decide +kernel : pins 178 508 = some (10, 509, 2, 0, []))
            obtain ⟨n47, r509, s509, l47, h509, h⟩ := pinv_call h (by decide +kernel : pins 178 509 = some (36, 512, 140, 1, [4]))
            have h509 : prun n47 140 0 (lv_args 0 [.ref (A 40), .int w500, .ref (A 62), .int w508]) [] σ = some (r509, s509) := h509
            obtain ⟨es509, w509, er509, f509⟩ := pc_alike0 W h509 (by decide) (by decide)
            have er509 : r509 = some (.int w509) := er509
            have et509 : s509 = σ := es509
            rw [et509] at h
            subst er509
            have h : prun n47 178 512 [(7, .int js), (6, .int c), (5, .int th), (4, .int life), (3, .int sort), (0, .ref t), (1, .int hh), (2, .int r)] [.int w509] σ = some x := h
            obtain ⟨n48, l48, ⟨c512, h⟩ | ⟨c512, h⟩⟩ := u_if0 h (by decide +kernel : pins 178 512 = some (16, 515, 0, ((521 : Nat) : Int), []))
            · obtain ⟨n49, w521, l49, e521, h⟩ := u_inc h (by decide +kernel : pins 178 521 = some (9, 524, 6, 1, [])) (v := c) rfl
              have h : prun n49 178 524 [(6, .int w521), (7, .int js), (5, .int th), (4, .int life), (3, .int sort), (0, .ref t), (1, .int hh), (2, .int r)] [] σ = some x := h
              obtain ⟨n50, l50, h⟩ := u_go h (by decide +kernel : pins 178 524 = some (20, 527, 0, ((439 : Nat) : Int), []))
              have h := prun_lv h (lv' := [(7, .int js), (6, .int w521), (5, .int th), (4, .int life), (3, .int sort), (0, .ref t), (1, .int hh), (2, .int r)]) (lvLe.cons (lvLe.cons (lvLe.cons (lvLe.cons (lvLe.cons (lvLe.cons (lvLe.cons (lvLe.cons lvLe.nil rfl) rfl) rfl) rfl) rfl) rfl) rfl) rfl) (by decide : ([6, 7, 5, 4, 3, 0, 1, 2] : List Nat).Nodup) (by decide : ([7, 6, 5, 4, 3, 0, 1, 2] : List Nat).Nodup)
              have hn : (hh.toNatClampNeg : Int) = hh.toInt := n_clamp hh0.1
              have q444 : w444.toInt = 24 * hh.toInt := by rw [e444, n_mul (by rw [i441]; omega) (by rw [i441]; omega), i441]
              have q450 : 0 ≤ w450.toInt ∧ w450.toInt ≤ 24 := by rw [e450]; exact ⟨I2, I3⟩
              have q451 : w451.toInt = 24 * hh.toInt + w450.toInt := by rw [addc e451 rfl (by omega) (by omega) (by omega) (by omega), q444]
              have q450' : w450.toInt = (gI (vw t A σ) 32 hh.toNatClampNeg).toInt := by rw [e450]
              have q521 : w521.toInt = c.toInt + 1 := addc e521 (by decide : (Int32.ofInt 1).toInt = 1) (by omega) (by omega) (by decide) (by decide)
              exact ih n50 (by omega) _ _ x W ⟨by omega, I2, I3⟩ h
            · obtain ⟨n51, l51, h⟩ := v_al h (by decide +kernel : pins 178 515 = some (5, 516, 0, 0, [])) (v := t) rfl
              obtain ⟨n52, l52, h⟩ := v_il h (by decide +kernel : pins 178 516 = some (3, 518, 6, 0, [])) (v := c) rfl
              obtain ⟨n53, r518, s518, l53, h518, h⟩ := pinv_call h (by decide +kernel : pins 178 518 = some (36, 521, 177, 0, [2]))
              have h518 : prun n53 177 0 (lv_args 0 [.ref t, .int c]) [] σ = some (r518, s518) := h518
              obtain ⟨er518, S518, d518⟩ := pc_dies W h518
              have er518 : r518 = none := er518
              subst er518
              try dsimp only at S518
              try dsimp only at d518
              have h : prun n53 178 521 [(7, .int js), (6, .int c), (5, .int th), (4, .int life), (3, .int sort), (0, .ref t), (1, .int hh), (2, .int r)] [] s518 = some x := h
              obtain ⟨n54, w521, l54, e521, h⟩ := u_inc h (by decide +kernel : pins 178 521 = some (9, 524, 6, 1, [])) (v := c) rfl
              have h : prun n54 178 524 [(6, .int w521), (7, .int js), (5, .int th), (4, .int life), (3, .int sort), (0, .ref t), (1, .int hh), (2, .int r)] [] s518 = some x := h
              obtain ⟨n55, l55, h⟩ := u_go h (by decide +kernel : pins 178 524 = some (20, 527, 0, ((439 : Nat) : Int), []))
              have h := prun_lv h (lv' := [(7, .int js), (6, .int w521), (5, .int th), (4, .int life), (3, .int sort), (0, .ref t), (1, .int hh), (2, .int r)]) (lvLe.cons (lvLe.cons (lvLe.cons (lvLe.cons (lvLe.cons (lvLe.cons (lvLe.cons (lvLe.cons lvLe.nil rfl) rfl) rfl) rfl) rfl) rfl) rfl) rfl) (by decide : ([6, 7, 5, 4, 3, 0, 1, 2] : List Nat).Nodup) (by decide : ([7, 6, 5, 4, 3, 0, 1, 2] : List Nat).Nodup)
              have hn : (hh.toNatClampNeg : Int) = hh.toInt := n_clamp hh0.1
              have q444 : w444.toInt = 24 * hh.toInt := by rw [e444, n_mul (by rw [i441]; omega) (by rw [i441]; omega), i441]
              have q450 : 0 ≤ w450.toInt ∧ w450.toInt ≤ 24 := by rw [e450]; exact ⟨I2, I3⟩
              have q451 : w451.toInt = 24 * hh.toInt + w450.toInt := by rw [addc e451 rfl (by omega) (by omega) (by omega) (by omega), q444]
              have q450' : w450.toInt = (gI (vw t A σ) 32 hh.toNatClampNeg).toInt := by rw [e450]
              have q521 : w521.toInt = c.toInt + 1 := addc e521 (by decide : (Int32.ofInt 1).toInt = 1) (by omega) (by omega) (by decide) (by decide)
              have kn : (c.toNatClampNeg : Int) = c.toInt := n_clamp (by omega)
              have en : ((gI (vw t A σ) 32 hh.toNatClampNeg).toNatClampNeg : Int) = (gI (vw t A σ) 32 hh.toNatClampNeg).toInt := n_clamp I2
              have D : Dy (vw t A σ) (vw t A s518) (24 * hh.toNatClampNeg) (24 * hh.toNatClampNeg + (gI (vw t A σ) 32 hh.toNatClampNeg).toNatClampNeg) th.toInt := dies_Dy d518 (by omega) (by omega) (by omega)
              have e32 : gI (vw t A s518) 32 hh.toNatClampNeg = gI (vw t A σ) 32 hh.toNatClampNeg := by unfold gI; rw [D.1 32 _ (by decide)]
              obtain ⟨y1, y2, y3⟩ := ih n55 (by omega) _ _ x S518.1 ⟨by omega, by rw [e32]; exact I2, by rw [e32]; exact I3⟩ h
              rw [e32] at y3
              exact ⟨y1, S518.tr y2, D.tr y3⟩
theorem pc_rec_a {t : Nat} {A : Nat → Nat} {hh life sort r : Int32} (hh0 : 0 ≤ hh.toInt ∧ hh.toInt ≤ 7) : ∀ (n : Nat) (c th js : Int32) (σ : ps) (x : Option Value × ps), Wld t A σ → (24 * hh.toInt ≤ c.toInt ∧ (th.toInt = -1 ∨ (24 * hh.toInt ≤ th.toInt ∧ th.toInt < 24 * hh.toInt + (gI (vw t A σ) 32 hh.toNatClampNeg).toInt))) → prun n 178 113 [(7, .int js), (6, .int c), (5, .int th), (4, .int life), (3, .int sort), (0, .ref t), (1, .int hh), (2, .int r)] [] σ = some x → 0 ≤ (gI (vw t A σ) 32 hh.toNatClampNeg).toInt ∧ (gI (vw t A σ) 32 hh.toNatClampNeg).toInt ≤ 24 → ∃ (m : Nat) (js2 c2 th2 : Int32), (th2.toInt = -1 ∨ (24 * hh.toInt ≤ th2.toInt ∧ th2.toInt < 24 * hh.toInt + (gI (vw t A σ) 32 hh.toNatClampNeg).toInt)) ∧ prun m 178 234 [(7, .int js2), (6, .int c2), (5, .int th2), (4, .int life), (3, .int sort), (0, .ref t), (1, .int hh), (2, .int r)] [] σ = some x := by
  intro n
  induction n using Nat.strongRecOn with
  | ind n ih =>
    intro c th js σ x W I h
    intro hE
    obtain ⟨I1, I2⟩ := I
    obtain ⟨n1, l1, h⟩ := v_il h (by decide +kernel : pins 178 113 = some (3, 115, 6, 0, [])) (v := c) rfl
    obtain ⟨n2, w115, l2, ⟨e115, i115⟩, h⟩ := u_ic h (by decide +kernel : pins 178 115 = some (0, 117, 24, 0, [])) (by decide)
    obtain ⟨n3, l3, h⟩ := v_il h (by decide +kernel : pins 178 117 = some (3, 118, 1, 0, [])) (v := hh) rfl
    obtain ⟨n4, w118, l4, e118, h⟩ := u_mul h (by decide +kernel : pins 178 118 = some (10, 119, 2, 0, []))
    obtain ⟨n5, l5, h⟩ := v_al h (by decide +kernel : pins 178 119 = some (5, 120, 0, 0, [])) (v := t) rfl
    obtain ⟨n6, l6, h⟩ := w_row (k := 32) W h (by decide +kernel : pins 178 120 = some (22, 123, 13, 32, [])) (by decide)
    obtain ⟨n7, l7, h⟩ := v_il h (by decide +kernel : pins 178 123 = some (3, 124, 1, 0, [])) (v := hh) rfl
    obtain ⟨n8, w124, l8, b124, e124, h⟩ := w_iald W h (by decide +kernel : pins 178 124 = some (24, 125, 0, 0, [])) (by decide)
    obtain ⟨n9, w125, l9, e125, h⟩ := u_add h (by decide +kernel : pins 178 125 = some (10, 126, 0, 0, []))
    obtain ⟨n10, l10, ⟨c126, h⟩ | ⟨c126, h⟩⟩ := u_ic3 h (by decide +kernel : pins 178 126 = some (17, 129, 3, ((234 : Nat) : Int), []))
    · have h := prun_lv h (lv' := [(7, .int js), (6, .int c), (5, .int th), (4, .int life), (3, .int sort), (0, .ref t), (1, .int hh), (2, .int r)]) (lvLe.cons (lvLe.cons (lvLe.cons (lvLe.cons (lvLe.cons (lvLe.cons (lvLe.cons (lvLe.cons lvLe.nil rfl) rfl) rfl) rfl) rfl) rfl) rfl) rfl) (by decide : ([7, 6, 5, 4, 3, 0, 1, 2] : List Nat).Nodup) (by decide : ([7, 6, 5, 4, 3, 0, 1, 2] : List Nat).Nodup)
      exact ⟨_, _, _, _, I2, h⟩
    · obtain ⟨n11, l11, h⟩ := v_al h (by decide +kernel : pins 178 129 = some (5, 130, 0, 0, [])) (v := t) rfl
      obtain ⟨n12, l12, h⟩ := w_row (k := 33) W h (by decide +kernel : pins 178 130 = some (22, 133, 13, 33, [])) (by decide)
      obtain ⟨n13, l13, h⟩ := v_il h (by decide +kernel : pins 178 133 = some (3, 135, 6, 0, [])) (v := c) rfl
      obtain ⟨n14, w135, l14, b135, e135, h⟩ := w_iald W h (by decide +kernel : pins 178 135 = some (24, 136, 0, 0, [])) (by decide)
      obtain ⟨n15, l15, h⟩ := v_il h (by decide +kernel : pins 178 136 = some (3, 137, 3, 0, [])) (v := sort) rfl
      obtain ⟨n16, l16, ⟨c137, h⟩ | ⟨c137, h⟩⟩ := u_ic1 h (by decide +kernel : pins 178 137 = some (17, 140, 1, ((211 : Nat) : Int), []))
      · obtain ⟨n17, w211, l17, ⟨e211, i211⟩, h⟩ := u_ic h (by decide +kernel : pins 178 211 = some (0, 212, 0, 0, [])) (by decide)
        obtain ⟨n18, l18, h⟩ := v_is h (by decide +kernel : pins 178 212 = some (6, 214, 7, 0, []))
        have h : prun n18 178 214 [(7, .int w211), (6, .int c), (5, .int th), (4, .int life), (3, .int sort), (0, .ref t), (1, .int hh), (2, .int r)] [] σ = some x := h
        obtain ⟨n19, l19, h⟩ := v_il h (by decide +kernel : pins 178 214 = some (3, 216, 7, 0, [])) (v := w211) rfl
        obtain ⟨n20, l20, ⟨c216, h⟩ | ⟨c216, h⟩⟩ := u_if0 h (by decide +kernel : pins 178 216 = some (16, 219, 0, ((228 : Nat) : Int), []))
        · obtain ⟨n21, w228, l21, e228, h⟩ := u_inc h (by decide +kernel : pins 178 228 = some (9, 231, 6, 1, [])) (v := c) rfl
          have h : prun n21 178 231 [(6, .int w228), (7, .int w211), (5, .int th), (4, .int life), (3, .int sort), (0, .ref t), (1, .int hh), (2, .int r)] [] σ = some x := h
          obtain ⟨n22, l22, h⟩ := u_go h (by decide +kernel : pins 178 231 = some (20, 234, 0, ((113 : Nat) : Int), []))
          have h := prun_lv h (lv' := [(7, .int w211), (6, .int w228), (5, .int th), (4, .int life), (3, .int sort), (0, .ref t), (1, .int hh), (2, .int r)]) (lvLe.cons (lvLe.cons (lvLe.cons (lvLe.cons (lvLe.cons (lvLe.cons (lvLe.cons (lvLe.cons lvLe.nil rfl) rfl) rfl) rfl) rfl) rfl) rfl) rfl) (by decide : ([6, 7, 5, 4, 3, 0, 1, 2] : List Nat).Nodup) (by decide : ([7, 6, 5, 4, 3, 0, 1, 2] : List Nat).Nodup)
          have hn : (hh.toNatClampNeg : Int) = hh.toInt := n_clamp hh0.1
          have q118 : w118.toInt = 24 * hh.toInt := by rw [e118, n_mul (by rw [i115]; omega) (by rw [i115]; omega), i115]
          have q124 : w124.toInt = (gI (vw t A σ) 32 hh.toNatClampNeg).toInt := by rw [e124]
          have q125 : w125.toInt = 24 * hh.toInt + w124.toInt := by rw [addc e125 rfl (by omega) (by omega) (by omega) (by omega), q118]
          have q228 : w228.toInt = c.toInt + 1 := addc e228 (by decide : (Int32.ofInt 1).toInt = 1) (by omega) (by omega) (by decide) (by decide)
          exact ih n22 (by omega) _ _ _ _ x W ⟨by omega, I2⟩ h hE
        · exfalso; omega
      · obtain ⟨n23, l23, h⟩ := v_al h (by decide +kernel : pins 178 140 = some (5, 141, 0, 0, [])) (v := t) rfl
        obtain ⟨n24, l24, h⟩ := w_row (k := 34) W h (by decide +kernel : pins 178 141 = some (22, 144, 13, 34, [])) (by decide)
        obtain ⟨n25, l25, h⟩ := v_il h (by decide +kernel : pins 178 144 = some (3, 146, 6, 0, [])) (v := c) rfl
        obtain ⟨n26, w146, l26, b146, e146, h⟩ := w_iald W h (by decide +kernel : pins 178 146 = some (24, 147, 0, 0, [])) (by decide)
        obtain ⟨n27, l27, h⟩ := v_al h (by decide +kernel : pins 178 147 = some (5, 148, 0, 0, [])) (v := t) rfl
        obtain ⟨n28, l28, h⟩ := w_row (k := 67) W h (by decide +kernel : pins 178 148 = some (22, 151, 13, 67, [])) (by decide)
        obtain ⟨n29, l29, h⟩ := v_il h (by decide +kernel : pins 178 151 = some (3, 152, 2, 0, [])) (v := r) rfl
        obtain ⟨n30, w152, l30, b152, e152, h⟩ := w_iald W h (by decide +kernel : pins 178 152 = some (24, 153, 0, 0, [])) (by decide)
        obtain ⟨n31, l31, ⟨c153, h⟩ | ⟨c153, h⟩⟩ := u_ic1 h (by decide +kernel : pins 178 153 = some (17, 156, 1, ((211 : Nat) : Int), []))
        · obtain ⟨n32, w211, l32, ⟨e211, i211⟩, h⟩ := u_ic h (by decide +kernel : pins 178 211 = some (0, 212, 0, 0, [])) (by decide)
          obtain ⟨n33, l33, h⟩ := v_is h (by decide +kernel : pins 178 212 = some (6, 214, 7, 0, []))
          have h : prun n33 178 214 [(7, .int w211), (6, .int c), (5, .int th), (4, .int life), (3, .int sort), (0, .ref t), (1, .int hh), (2, .int r)] [] σ = some x := h
          obtain ⟨n34, l34, h⟩ := v_il h (by decide +kernel : pins 178 214 = some (3, 216, 7, 0, [])) (v := w211) rfl
          obtain ⟨n35, l35, ⟨c216, h⟩ | ⟨c216, h⟩⟩ := u_if0 h (by decide +kernel : pins 178 216 = some (16, 219, 0, ((228 : Nat) : Int), []))
          · obtain ⟨n36, w228, l36, e228, h⟩ := u_inc h (by decide +kernel : pins 178 228 = some (9, 231, 6, 1, [])) (v := c) rfl
            have h : prun n36 178 231 [(6, .int w228), (7, .int w211), (5, .int th), (4, .int life), (3, .int sort), (0, .ref t), (1, .int hh), (2, .int r)] [] σ = some x := h
            obtain ⟨n37, l37, h⟩ := u_go h (by decide +kernel : pins 178 231 = some (20, 234, 0, ((113 : Nat) : Int), []))
            have h := prun_lv h (lv' := [(7, .int w211), (6, .int w228), (5, .int th), (4, .int life), (3, .int sort), (0, .ref t), (1, .int hh), (2, .int r)]) (lvLe.cons (lvLe.cons (lvLe.cons (lvLe.cons (lvLe.cons (lvLe.cons (lvLe.cons (lvLe.cons lvLe.nil rfl) rfl) rfl) rfl) rfl) rfl) rfl) rfl) (by decide : ([6, 7, 5, 4, 3, 0, 1, 2] : List Nat).Nodup) (by decide : ([7, 6, 5, 4, 3, 0, 1, 2] : List Nat).Nodup)
            have hn : (hh.toNatClampNeg : Int) = hh.toInt := n_clamp hh0.1
            have q118 : w118.toInt = 24 * hh.toInt := by rw [e118, n_mul (by rw [i115]; omega) (by rw [i115]; omega), i115]
            have q124 : w124.toInt = (gI (vw t A σ) 32 hh.toNatClampNeg).toInt := by rw [e124]
            have q125 : w125.toInt = 24 * hh.toInt + w124.toInt := by rw [addc e125 rfl (by omega) (by omega) (by omega) (by omega), q118]
            have q228 : w228.toInt = c.toInt + 1 := addc e228 (by decide : (Int32.ofInt 1).toInt = 1) (by omega) (by omega) (by decide) (by decide)
            exact ih n37 (by omega) _ _ _ _ x W ⟨by omega, I2⟩ h hE
          · exfalso; omega
        · obtain ⟨n38, l38, h⟩ := v_al h (by decide +kernel : pins 178 156 = some (5, 157, 0, 0, [])) (v := t) rfl
          obtain ⟨n39, l39, h⟩ := w_row (k := 40) W h (by decide +kernel : pins 178 157 = some (22, 160, 13, 40, [])) (by decide)
          obtain ⟨n40, w160, l40, ⟨e160, i160⟩, h⟩ := u_ic h (by decide +kernel : pins 178 160 = some (0, 162, 16, 0, [])) (by decide)
          obtain ⟨n41, l41, h⟩ := v_il h (by decide +kernel : pins 178 162 = some (3, 164, 6, 0, [])) (v := c) rfl
          obtain ⟨n42, w164, l42, e164, h⟩ := u_mul h (by decide +kernel : pins 178 164 = some (10, 165, 2, 0, []))
          obtain ⟨n43, l43, h⟩ := v_al h (by decide +kernel : pins 178 165 = some (5, 166, 0, 0, [])) (v := t) rfl
          obtain ⟨n44, l44, h⟩ := w_row (k := 62) W h (by decide +kernel : pins 178 166 = some (22, 169, 13, 62, [])) (by decide)
          obtain ⟨n45, w169, l45, ⟨e169, i169⟩, h⟩ := u_ic h (by decide +kernel : pins 178 169 = some (0, 171, 16, 0, [])) (by decide)
          obtain ⟨n46, l46, h⟩ := v_il h (by decide +kernel : pins 178 171 = some (3, 172, 2, 0, [])) (v := r) rfl
          obtain ⟨n47, w172, l47, e172, h⟩ := u_mul h (by decide +kernel : pins 178 172 = some (10, 173, 2, 0, []))
          obtain ⟨n48, r173, s173, l48, h173, h⟩ := pinv_call h (by decide +kernel : pins 178 173 = some (36, 176, 140, 1, [4]))
          have h173 : prun n48 140 0 (lv_args 0 [.ref (A 40), .int w164, .ref (A 62), .int w172]) [] σ = some (r173, s173) := h173
          obtain ⟨es173, w173, er173, f173⟩ := pc_alike0 W h173 (by decide) (by decide)
          have er173 : r173 = some (.int w173) := er173
          have et173 : s173 = σ := es173
          rw [et173] at h
          subst er173
          have h : prun n48 178 176 [(7, .int js), (6, .int c), (5, .int th), (4, .int life), (3, .int sort), (0, .ref t), (1, .int hh), (2, .int r)] [.int w173] σ = some x := h
          obtain ⟨n49, l49, ⟨c176, h⟩ | ⟨c176, h⟩⟩ := u_if0 h (by decide +kernel : pins 178 176 = some (16, 179, 0, ((211 : Nat) : Int), []))
          · obtain ⟨n50, w211, l50, ⟨e211, i211⟩, h⟩ := u_ic h (by decide +kernel : pins 178 211 = some (0, 212, 0, 0, [])) (by decide)
            obtain ⟨n51, l51, h⟩ := v_is h (by decide +kernel : pins 178 212 = some (6, 214, 7, 0, []))
            have h : prun n51 178 214 [(7, .int w211), (6, .int c), (5, .int th), (4, .int life), (3, .int sort), (0, .ref t), (1, .int hh), (2, .int r)] [] σ = some x := h
            obtain ⟨n52, l52, h⟩ := v_il h (by decide +kernel : pins 178 214 = some (3, 216, 7, 0, [])) (v := w211) rfl
            obtain ⟨n53, l53, ⟨c216, h⟩ | ⟨c216, h⟩⟩ := u_if0 h (by decide +kernel : pins 178 216 = some (16, 219, 0, ((228 : Nat) : Int), []))
            · obtain ⟨n54, w228, l54, e228, h⟩ := u_inc h (by decide +kernel : pins 178 228 = some (9, 231, 6, 1, [])) (v := c) rfl
              have h : prun n54 178 231 [(6, .int w228), (7, .int w211), (5, .int th), (4, .int life), (3, .int sort), (0, .ref t), (1, .int hh), (2, .int r)] [] σ = some x := h
              obtain ⟨n55, l55, h⟩ := u_go h (by decide +kernel : pins 178 231 = some (20, 234, 0, ((113 : Nat) : Int), []))
              have h := prun_lv h (lv' := [(7, .int w211), (6, .int w228), (5, .int th), (4, .int life), (3, .int sort), (0, .ref t), (1, .int hh), (2, .int r)]) (lvLe.cons (lvLe.cons (lvLe.cons (lvLe.cons (lvLe.cons (lvLe.cons (lvLe.cons (lvLe.cons lvLe.nil rfl) rfl) rfl) rfl) rfl) rfl) rfl) rfl) (by decide : ([6, 7, 5, 4, 3, 0, 1, 2] : List Nat).Nodup) (by decide : ([7, 6, 5, 4, 3, 0, 1, 2] : List Nat).Nodup)
              have hn : (hh.toNatClampNeg : Int) = hh.toInt := n_clamp hh0.1
              have q118 : w118.toInt = 24 * hh.toInt := by rw [e118, n_mul (by rw [i115]; omega) (by rw [i115]; omega), i115]
              have q124 : w124.toInt = (gI (vw t A σ) 32 hh.toNatClampNeg).toInt := by rw [e124]
              have q125 : w125.toInt = 24 * hh.toInt + w124.toInt := by rw [addc e125 rfl (by omega) (by omega) (by omega) (by omega), q118]
              have q228 : w228.toInt = c.toInt + 1 := addc e228 (by decide : (Int32.ofInt 1).toInt = 1) (by omega) (by omega) (by decide) (by decide)
              exact ih n55 (by omega) _ _ _ _ x W ⟨by omega, I2⟩ h hE
            · exfalso; omega
          · obtain ⟨n56, l56, h⟩ := v_il h (by decide +kernel : pins 178 179 = some (3, 180, 3, 0, [])) (v := sort) rfl
            obtain ⟨n57, w180, l57, ⟨e180, i180⟩, h⟩ := u_ic h (by decide +kernel : pins 178 180 = some (0, 181, 1, 0, [])) (by decide)
            obtain ⟨n58, l58, ⟨c181, h⟩ | ⟨c181, h⟩⟩ := u_ic0 h (by decide +kernel : pins 178 181 = some (17, 184, 0, ((207 : Nat) : Int), []))
            · obtain ⟨n59, w207, l59, ⟨e207, i207⟩, h⟩ := u_ic h (by decide +kernel : pins 178 207 = some (0, 208, 1, 0, [])) (by decide)
              obtain ⟨n60, l60, h⟩ := u_go h (by decide +kernel : pins 178 208 = some (20, 211, 0, ((212 : Nat) : Int), []))
              obtain ⟨n61, l61, h⟩ := v_is h (by decide +kernel : pins 178 212 = some (6, 214, 7, 0, []))
              have h : prun n61 178 214 [(7, .int w207), (6, .int c), (5, .int th), (4, .int life), (3, .int sort), (0, .ref t), (1, .int hh), (2, .int r)] [] σ = some x := h
              obtain ⟨n62, l62, h⟩ := v_il h (by decide +kernel : pins 178 214 = some (3, 216, 7, 0, [])) (v := w207) rfl
              obtain ⟨n63, l63, ⟨c216, h⟩ | ⟨c216, h⟩⟩ := u_if0 h (by decide +kernel : pins 178 216 = some (16, 219, 0, ((228 : Nat) : Int), []))
              · exfalso; omega
              · obtain ⟨n64, l64, h⟩ := v_il h (by decide +kernel : pins 178 219 = some (3, 221, 5, 0, [])) (v := th) rfl
                obtain ⟨n65, l65, ⟨c221, h⟩ | ⟨c221, h⟩⟩ := u_if3 h (by decide +kernel : pins 178 221 = some (16, 224, 3, ((228 : Nat) : Int), []))
                · obtain ⟨n66, w228, l66, e228, h⟩ := u_inc h (by decide +kernel : pins 178 228 = some (9, 231, 6, 1, [])) (v := c) rfl
                  have h : prun n66 178 231 [(6, .int w228), (7, .int w207), (5, .int th), (4, .int life), (3, .int sort), (0, .ref t), (1, .int hh), (2, .int r)] [] σ = some x := h
                  obtain ⟨n67, l67, h⟩ := u_go h (by decide +kernel : pins 178 231 = some (20, 234, 0, ((113 : Nat) : Int), []))
                  have h := prun_lv h (lv' := [(7, .int w207), (6, .int w228), (5, .int th), (4, .int life), (3, .int sort), (0, .ref t), (1, .int hh), (2, .int r)]) (lvLe.cons (lvLe.cons (lvLe.cons (lvLe.cons (lvLe.cons (lvLe.cons (lvLe.cons (lvLe.cons lvLe.nil rfl) rfl) rfl) rfl) rfl) rfl) rfl) rfl) (by decide : ([6, 7, 5, 4, 3, 0, 1, 2] : List Nat).Nodup) (by decide : ([7, 6, 5, 4, 3, 0, 1, 2] : List Nat).Nodup)
                  have hn : (hh.toNatClampNeg : Int) = hh.toInt := n_clamp hh0.1
                  have q118 : w118.toInt = 24 * hh.toInt := by rw [e118, n_mul (by rw [i115]; omega) (by rw [i115]; omega), i115]
                  have q124 : w124.toInt = (gI (vw t A σ) 32 hh.toNatClampNeg).toInt := by rw [e124]
                  have q125 : w125.toInt = 24 * hh.toInt + w124.toInt := by rw [addc e125 rfl (by omega) (by omega) (by omega) (by omega), q118]
                  have q228 : w228.toInt = c.toInt + 1 := addc e228 (by decide : (Int32.ofInt 1).toInt = 1) (by omega) (by omega) (by decide) (by decide)
                  exact ih n67 (by omega) _ _ _ _ x W ⟨by omega, I2⟩ h hE
                · obtain ⟨n68, l68, h⟩ := v_il h (by decide +kernel : pins 178 224 = some (3, 226, 6, 0, [])) (v := c) rfl
                  obtain ⟨n69, l69, h⟩ := v_is h (by decide +kernel : pins 178 226 = some (6, 228, 5, 0, []))
                  have h : prun n69 178 228 [(5, .int c), (7, .int w207), (6, .int c), (4, .int life), (3, .int sort), (0, .ref t), (1, .int hh), (2, .int r)] [] σ = some x := h
                  obtain ⟨n70, w228, l70, e228, h⟩ := u_inc h (by decide +kernel : pins 178 228 = some (9, 231, 6, 1, [])) (v := c) rfl
                  have h : prun n70 178 231 [(6, .int w228), (5, .int c), (7, .int w207), (4, .int life), (3, .int sort), (0, .ref t), (1, .int hh), (2, .int r)] [] σ = some x := h
                  obtain ⟨n71, l71, h⟩ := u_go h (by decide +kernel : pins 178 231 = some (20, 234, 0, ((113 : Nat) : Int), []))
                  have h := prun_lv h (lv' := [(7, .int w207), (6, .int w228), (5, .int c), (4, .int life), (3, .int sort), (0, .ref t), (1, .int hh), (2, .int r)]) (lvLe.cons (lvLe.cons (lvLe.cons (lvLe.cons (lvLe.cons (lvLe.cons (lvLe.cons (lvLe.cons lvLe.nil rfl) rfl) rfl) rfl) rfl) rfl) rfl) rfl) (by decide : ([6, 5, 7, 4, 3, 0, 1, 2] : List Nat).Nodup) (by decide : ([7, 6, 5, 4, 3, 0, 1, 2] : List Nat).Nodup)
                  have hn : (hh.toNatClampNeg : Int) = hh.toInt := n_clamp hh0.1
                  have q118 : w118.toInt = 24 * hh.toInt := by rw [e118, n_mul (by rw [i115]; omega) (by rw [i115]; omega), i115]
                  have q124 : w124.toInt = (gI (vw t A σ) 32 hh.toNatClampNeg).toInt := by rw [e124]
                  have q125 : w125.toInt = 24 * hh.toInt + w124.toInt := by rw [addc e125 rfl (by omega) (by omega) (by omega) (by omega), q118]
                  have q228 : w228.toInt = c.toInt + 1 := addc e228 (by decide : (Int32.ofInt 1).toInt = 1) (by omega) (by omega) (by decide) (by decide)
                  exact ih n71 (by omega) _ _ _ _ x W ⟨by omega, Or.inr ⟨by omega, by omega⟩⟩ h hE
            · obtain ⟨n72, l72, h⟩ := v_al h (by decide +kernel : pins 178 184 = some (5, 185, 0, 0, [])) (v := t) rfl
              obtain ⟨n73, l73, h⟩ := w_row (k := 41) W h (by decide +kernel : pins 178 185 = some (22, 188, 13, 41, [])) (by decide)
              obtain ⟨n74, w188, l74, ⟨e188, i188⟩, h⟩ := u_ic h (by decide +kernel : pins 178 188 = some (0, 190, 16, 0, [])) (by decide)
              obtain ⟨n75, l75, h⟩ := v_il h (by decide +kernel : pins 178 190 = some (3, 192, 6, 0, [])) (v := c) rfl
              obtain ⟨n76, w192, l76, e192, h⟩ := u_mul h (by decide +kernel : pins 178 192 = some (10, 193, 2, 0, []))
              obtain ⟨n77, l77, h⟩ := v_al h (by decide +kernel : pins 178 193 = some (5, 194, 0, 0, [])) (v := t) rfl
              obtain ⟨n78, l78, h⟩ := w_row (k := 63) W h (by decide +kernel : pins 178 194 = some (22, 197, 13, 63, [])) (by decide)
              obtain ⟨n79, w197, l79, ⟨e197, i197⟩, h⟩ := u_ic h (by decide +kernel : pins 178 197 = some (0, 199, 16, 0, [])) (by decide)
              obtain ⟨n80, l80, h⟩ := v_il h (by decide +kernel : pins 178 199 = some (3, 200, 2, 0, [])) (v := r) rfl
              obtain ⟨n81, w200, l81, e200, h⟩ := u_mul h (by decide +kernel : pins 178 200 = some (10, 201, 2, 0, []))
              obtain ⟨n82, r201, s201, l82, h201, h⟩ := pinv_call h (by decide +kernel : pins 178 201 = some (36, 204, 140, 1, [4]))
              have h201 : prun n82 140 0 (lv_args 0 [.ref (A 41), .int w192, .ref (A 63), .int w200]) [] σ = some (r201, s201) := h201
              obtain ⟨es201, w201, er201, f201⟩ := pc_alike0 W h201 (by decide) (by decide)
              have er201 : r201 = some (.int w201) := er201
              have et201 : s201 = σ := es201
              rw [et201] at h
              subst er201
              have h : prun n82 178 204 [(7, .int js), (6, .int c), (5, .int th), (4, .int life), (3, .int sort), (0, .ref t), (1, .int hh), (2, .int r)] [.int w201] σ = some x := h
              obtain ⟨n83, l83, ⟨c204, h⟩ | ⟨c204, h⟩⟩ := u_if0 h (by decide +kernel : pins 178 204 = some (16, 207, 0, ((211 : Nat) : Int), []))
              · obtain ⟨n84, w211, l84, ⟨e211, i211⟩, h⟩ := u_ic h (by decide +kernel : pins 178 211 = some (0, 212, 0, 0, [])) (by decide)
                obtain ⟨n85, l85, h⟩ := v_is h (by decide +kernel : pins 178 212 = some (6, 214, 7, 0, []))
                have h : prun n85 178 214 [(7, .int w211), (6, .int c), (5, .int th), (4, .int life), (3, .int sort), (0, .ref t), (1, .int hh), (2, .int r)] [] σ = some x := h
                obtain ⟨n86, l86, h⟩ := v_il h (by decide +kernel : pins 178 214 = some (3, 216, 7, 0, [])) (v := w211) rfl
                obtain ⟨n87, l87, ⟨c216, h⟩ | ⟨c216, h⟩⟩ := u_if0 h (by decide +kernel : pins 178 216 = some (16, 219, 0, ((228 : Nat) : Int), []))
                · obtain ⟨n88, w228, l88, e228, h⟩ := u_inc h (by decide +kernel : pins 178 228 = some (9, 231, 6, 1, [])) (v := c) rfl
                  have h : prun n88 178 231 [(6, .int w228), (7, .int w211), (5, .int th), (4, .int life), (3, .int sort), (0, .ref t), (1, .int hh), (2, .int r)] [] σ = some x := h
                  obtain ⟨n89, l89, h⟩ := u_go h (by decide +kernel : pins 178 231 = some (20, 234, 0, ((113 : Nat) : Int), []))
                  have h := prun_lv h (lv' := [(7, .int w211), (6, .int w228), (5, .int th), (4, .int life), (3, .int sort), (0, .ref t), (1, .int hh), (2, .int r)]) (lvLe.cons (lvLe.cons (lvLe.cons (lvLe.cons (lvLe.cons (lvLe.cons (lvLe.cons (lvLe.cons lvLe.nil rfl) rfl) rfl) rfl) rfl) rfl) rfl) rfl) (by decide : ([6, 7, 5, 4, 3, 0, 1, 2] : List Nat).Nodup) (by decide : ([7, 6, 5, 4, 3, 0, 1, 2] : List Nat).Nodup)
                  have hn : (hh.toNatClampNeg : Int) = hh.toInt := n_clamp hh0.1
                  have q118 : w118.toInt = 24 * hh.toInt := by rw [e118, n_mul (by rw [i115]; omega) (by rw [i115]; omega), i115]
                  have q124 : w124.toInt = (gI (vw t A σ) 32 hh.toNatClampNeg).toInt := by rw [e124]
                  have q125 : w125.toInt = 24 * hh.toInt + w124.toInt := by rw [addc e125 rfl (by omega) (by omega) (by omega) (by omega), q118]
                  have q228 : w228.toInt = c.toInt + 1 := addc e228 (by decide : (Int32.ofInt 1).toInt = 1) (by omega) (by omega) (by decide) (by decide)
                  exact ih n89 (by omega) _ _ _ _ x W ⟨by omega, I2⟩ h hE
                · exfalso; omega
              · obtain ⟨n90, w207, l90, ⟨e207, i207⟩, h⟩ := u_ic h (by decide +kernel : pins 178 207 = some (0, 208, 1, 0, [])) (by decide)
                obtain ⟨n91, l91, h⟩ := u_go h (by decide +kernel : pins 178 208 = some (20, 211, 0, ((212 : Nat) : Int), []))
                obtain ⟨n92, l92, h⟩ := v_is h (by decide +kernel : pins 178 212 = some (6, 214, 7, 0, []))
                have h : prun n92 178 214 [(7, .int w207), (6, .int c), (5, .int th), (4, .int life), (3, .int sort), (0, .ref t), (1, .int hh), (2, .int r)] [] σ = some x := h
                obtain ⟨n93, l93, h⟩ := v_il h (by decide +kernel : pins 178 214 = some (3, 216, 7, 0, [])) (v := w207) rfl
                obtain ⟨n94, l94, ⟨c216, h⟩ | ⟨c216, h⟩⟩ := u_if0 h (by decide +kernel : pins 178 216 = some (16, 219, 0, ((228 : Nat) : Int), []))
                · exfalso; omega
                · obtain ⟨n95, l95, h⟩ := v_il h (by decide +kernel : pins 178 219 = some (3, 221, 5, 0, [])) (v := th) rfl
                  obtain ⟨n96, l96, ⟨c221, h⟩ | ⟨c221, h⟩⟩ := u_if3 h (by decide +kernel : pins 178 221 = some (16, 224, 3, ((228 : Nat) : Int), []))
                  · obtain ⟨n97, w228, l97, e228, h⟩ := u_inc h (by decide +kernel : pins 178 228 = some (9, 231, 6, 1, [])) (v := c) rfl
                    have h : prun n97 178 231 [(6, .int w228), (7, .int w207), (5, .int th), (4, .int life), (3, .int sort), (0, .ref t), (1, .int hh), (2, .int r)] [] σ = some x := h
                    obtain ⟨n98, l98, h⟩ := u_go h (by decide +kernel : pins 178 231 = some (20, 234, 0, ((113 : Nat) : Int), []))
                    have h := prun_lv h (lv' := [(7, .int w207), (6, .int w228), (5, .int th), (4, .int life), (3, .int sort), (0, .ref t), (1, .int hh), (2, .int r)]) (lvLe.cons (lvLe.cons (lvLe.cons (lvLe.cons (lvLe.cons (lvLe.cons (lvLe.cons (lvLe.cons lvLe.nil rfl) rfl) rfl) rfl) rfl) rfl) rfl) rfl) (by decide : ([6, 7, 5, 4, 3, 0, 1, 2] : List Nat).Nodup) (by decide : ([7, 6, 5, 4, 3, 0, 1, 2] : List Nat).Nodup)
                    have hn : (hh.toNatClampNeg : Int) = hh.toInt := n_clamp hh0.1
                    have q118 : w118.toInt = 24 * hh.toInt := by rw [e118, n_mul (by rw [i115]; omega) (by rw [i115]; omega), i115]
                    have q124 : w124.toInt = (gI (vw t A σ) 32 hh.toNatClampNeg).toInt := by rw [e124]
                    have q125 : w125.toInt = 24 * hh.toInt + w124.toInt := by rw [addc e125 rfl (by omega) (by omega) (by omega) (by omega), q118]
                    have q228 : w228.toInt = c.toInt + 1 := addc e228 (by decide : (Int32.ofInt 1).toInt = 1) (by omega) (by omega) (by decide) (by decide)
                    exact ih n98 (by omega) _ _ _ _ x W ⟨by omega, I2⟩ h hE
                  · obtain ⟨n99, l99, h⟩ := v_il h (by decide +kernel : pins 178 224 = some (3, 226, 6, 0, [])) (v := c) rfl
                    obtain ⟨n100, l100, h⟩ := v_is h (by decide +kernel : pins 178 226 = some (6, 228, 5, 0, []))
                    have h : prun n100 178 228 [(5, .int c), (7, .int w207), (6, .int c), (4, .int life), (3, .int sort), (0, .ref t), (1, .int hh), (2, .int r)] [] σ = some x := h
                    obtain ⟨n101, w228, l101, e228, h⟩ := u_inc h (by decide +kernel : pins 178 228 = some (9, 231, 6, 1, [])) (v := c) rfl
                    have h : prun n101 178 231 [(6, .int w228), (5, .int c), (7, .int w207), (4, .int life), (3, .int sort), (0, .ref t), (1, .int hh), (2, .int r)] [] σ = some x := h
                    obtain ⟨n102, l102, h⟩ := u_go h (by decide +kernel : pins 178 231 = some (20, 234, 0, ((113 : Nat) : Int), []))
                    have h := prun_lv h (lv' := [(7, .int w207), (6, .int w228), (5, .int c), (4, .int life), (3, .int sort), (0, .ref t), (1, .int hh), (2, .int r)]) (lvLe.cons (lvLe.cons (lvLe.cons (lvLe.cons (lvLe.cons (lvLe.cons (lvLe.cons (lvLe.cons lvLe.nil rfl) rfl) rfl) rfl) rfl) rfl) rfl) rfl) (by decide : ([6, 5, 7, 4, 3, 0, 1, 2] : List Nat).Nodup) (by decide : ([7, 6, 5, 4, 3, 0, 1, 2] : List Nat).Nodup)
                    have hn : (hh.toNatClampNeg : Int) = hh.toInt := n_clamp hh0.1
                    have q118 : w118.toInt = 24 * hh.toInt := by rw [e118, n_mul (by rw [i115]; omega) (by rw [i115]; omega), i115]
                    have q124 : w124.toInt = (gI (vw t A σ) 32 hh.toNatClampNeg).toInt := by rw [e124]
                    have q125 : w125.toInt = 24 * hh.toInt + w124.toInt := by rw [addc e125 rfl (by omega) (by omega) (by omega) (by omega), q118]
                    have q228 : w228.toInt = c.toInt + 1 := addc e228 (by decide : (Int32.ofInt 1).toInt = 1) (by omega) (by omega) (by decide) (by decide)
                    exact ih n102 (by omega) _ _ _ _ x W ⟨by omega, Or.inr ⟨by omega, by omega⟩⟩ h hE
theorem pc_rec_d {t n : Nat} {A : Nat → Nat} {hh c th life sort r js : Int32} {σ : ps} {x : Option Value × ps} (W : Wld t A σ) (h : prun n 178 367 [(7, .int js), (6, .int c), (5, .int th), (4, .int life), (3, .int sort), (0, .ref t), (1, .int hh), (2, .int r)] [] σ = some x) (hh0 : 0 ≤ hh.toInt ∧ hh.toInt ≤ 7) (hE : 0 ≤ (gI (vw t A σ) 32 hh.toNatClampNeg).toInt ∧ (gI (vw t A σ) 32 hh.toNatClampNeg).toInt ≤ 24) : x.1 = none ∧ SP t A σ x.2 ∧ ∃ V2, ((th.toInt < 0 ∧ V2 = vw t A σ) ∨ (0 ≤ th.toInt ∧ EFresh V2 th.toNatClampNeg life ∧ ∀ j q : Nat, ¬ ((35 ≤ j ∧ j ≤ 39) ∧ q = th.toNatClampNeg) → V2 j q = vw t A σ j q)) ∧ Dy V2 (vw t A x.2) (24 * hh.toNatClampNeg) (24 * hh.toNatClampNeg + (gI (vw t A σ) 32 hh.toNatClampNeg).toNatClampNeg) th.toInt := by
  obtain ⟨n1, l1, h⟩ := v_il h (by decide +kernel : pins 178 367 = some (3, 369, 5, 0, [])) (v := th) rfl
  obtain ⟨n2, l2, ⟨c369, h⟩ | ⟨c369, h⟩⟩ := u_if2 h (by decide +kernel : pins 178 369 = some (16, 372, 2, ((423 : Nat) : Int), []))
  · obtain ⟨n3, l3, h⟩ := v_al h (by decide +kernel : pins 178 423 = some (5, 424, 0, 0, [])) (v := t) rfl
    obtain ⟨n4, l4, h⟩ := w_row (k := 65) W h (by decide +kernel : pins 178 424 = some (22, 427, 13, 65, [])) (by decide)
    obtain ⟨n5, l5, h⟩ := v_il h (by decide +kernel : pins 178 427 = some (3, 428, 2, 0, [])) (v := r) rfl
    obtain ⟨n6, w428, l6, b428, e428, h⟩ := w_iald W h (by decide +kernel : pins 178 428 = some (24, 429, 0, 0, [])) (by decide)
    obtain ⟨n7, l7, ⟨c429, h⟩ | ⟨c429, h⟩⟩ := u_if1 h (by decide +kernel : pins 178 429 = some (16, 432, 1, ((433 : Nat) : Int), []))
    · obtain ⟨n8, w433, l8, ⟨e433, i433⟩, h⟩ := u_ic h (by decide +kernel : pins 178 433 = some (0, 435, 24, 0, [])) (by decide)
      obtain ⟨n9, l9, h⟩ := v_il h (by decide +kernel : pins 178 435 = some (3, 436, 1, 0, [])) (v := hh) rfl
      obtain ⟨n10, w436, l10, e436, h⟩ := u_mul h (by decide +kernel : pins 178 436 = some (10, 437, 2, 0, []))
      obtain ⟨n11, l11, h⟩ := v_is h (by decide +kernel : pins 178 437 = some (6, 439, 6, 0, []))
      have h : prun n11 178 439 [(6, .int w436), (7, .int js), (5, .int th), (4, .int life), (3, .int sort), (0, .ref t), (1, .int hh), (2, .int r)] [] σ = some x := h
      have h := prun_lv h (lv' := [(7, .int js), (6, .int w436), (5, .int th), (4, .int life), (3, .int sort), (0, .ref t), (1, .int hh), (2, .int r)]) (lvLe.cons (lvLe.cons (lvLe.cons (lvLe.cons (lvLe.cons (lvLe.cons (lvLe.cons (lvLe.cons lvLe.nil rfl) rfl) rfl) rfl) rfl) rfl) rfl) rfl) (by decide : ([6, 7, 5, 4, 3, 0, 1, 2] : List Nat).Nodup) (by decide : ([7, 6, 5, 4, 3, 0, 1, 2] : List Nat).Nodup)
      have H2 : (th.toInt < 0 ∧ vw t A σ = vw t A σ) ∨ (0 ≤ th.toInt ∧ EFresh (vw t A σ) th.toNatClampNeg life ∧ ∀ j q : Nat, ¬ ((35 ≤ j ∧ j ≤ 39) ∧ q = th.toNatClampNeg) → vw t A σ j q = vw t A σ j q) := Or.inl ⟨by omega, rfl⟩
      have e32 : gI (vw t A σ) 32 hh.toNatClampNeg = gI (vw t A σ) 32 hh.toNatClampNeg := rfl
      have q436 : w436.toInt = 24 * hh.toInt := by rw [e436, n_mul (by rw [i433]; omega) (by rw [i433]; omega), i433]
      obtain ⟨y1, y2, y3⟩ := pc_rec_b hh0 _ _ _ x W ⟨by omega, by rw [e32]; exact hE.1, by rw [e32]; exact hE.2⟩ h
      rw [e32] at y3
      exact ⟨y1, (SP.rf W).tr y2, vw t A σ, H2, y3⟩
    · have ex := u_ret37 h (by decide +kernel : pins 178 432 = some (37, 433, 0, 0, []))
      subst ex
      have H2 : (th.toInt < 0 ∧ vw t A σ = vw t A σ) ∨ (0 ≤ th.toInt ∧ EFresh (vw t A σ) th.toNatClampNeg life ∧ ∀ j q : Nat, ¬ ((35 ≤ j ∧ j ≤ 39) ∧ q = th.toNatClampNeg) → vw t A σ j q = vw t A σ j q) := Or.inl ⟨by omega, rfl⟩
      have e32 : gI (vw t A σ) 32 hh.toNatClampNeg = gI (vw t A σ) 32 hh.toNatClampNeg := rfl
      exact ⟨rfl, (SP.rf W), vw t A σ, H2, Dy.rf⟩
  · obtain ⟨n13, l13, h⟩ := v_al h (by decide +kernel : pins 178 372 = some (5, 373, 0, 0, [])) (v := t) rfl
    obtain ⟨n14, l14, h⟩ := w_row (k := 35) W h (by decide +kernel : pins 178 373 = some (22, 376, 13, 35, [])) (by decide)
    obtain ⟨n15, l15, h⟩ := v_il h (by decide +kernel : pins 178 376 = some (3, 378, 5, 0, [])) (v := th) rfl
    obtain ⟨n16, l16, h⟩ := v_il h (by decide +kernel : pins 178 378 = some (3, 380, 4, 0, [])) (v := life) rfl
    obtain ⟨n17, s380, l17, b380, S380, u380, h⟩ := w_iast W h (by decide +kernel : pins 178 380 = some (28, 381, 0, 0, [])) (by decide)
    obtain ⟨n18, l18, h⟩ := v_al h (by decide +kernel : pins 178 381 = some (5, 382, 0, 0, [])) (v := t) rfl
    obtain ⟨n19, l19, h⟩ := w_row (k := 36) S380.1 h (by decide +kernel : pins 178 382 = some (22, 385, 13, 36, [])) (by decide)
    obtain ⟨n20, l20, h⟩ := v_il h (by decide +kernel : pins 178 385 = some (3, 387, 5, 0, [])) (v := th) rfl
    obtain ⟨n21, l21, h⟩ := v_al h (by decide +kernel : pins 178 387 = some (5, 388, 0, 0, [])) (v := t) rfl
    obtain ⟨n22, w388, l22, e388, h⟩ := w_fl S380.1 h (by decide +kernel : pins 178 388 = some (22, 391, 13, 0, []))
    obtain ⟨n23, s391, l23, b391, S391, u391, h⟩ := w_last S380.1 h (by decide +kernel : pins 178 391 = some (30, 392, 0, 0, [])) (by decide)
    obtain ⟨n24, l24, h⟩ := v_al h (by decide +kernel : pins 178 392 = some (5, 393, 0, 0, [])) (v := t) rfl
    obtain ⟨n25, l25, h⟩ := w_row (k := 37) S391.1 h (by decide +kernel : pins 178 393 = some (22, 396, 13, 37, [])) (by decide)
    obtain ⟨n26, l26, h⟩ := v_il h (by decide +kernel : pins 178 396 = some (3, 398, 5, 0, [])) (v := th) rfl
    obtain ⟨n27, l27, h⟩ := v_al h (by decide +kernel : pins 178 398 = some (5, 399, 0, 0, [])) (v := t) rfl
    obtain ⟨n28, w399, l28, e399, h⟩ := w_fl S391.1 h (by decide +kernel : pins 178 399 = some (22, 402, 13, 0, []))
    obtain ⟨n29, l29, h⟩ := v_il h (by decide +kernel : pins 178 402 = some (3, 404, 4, 0, [])) (v := life) rfl
    obtain ⟨n30, w404, l30, e404, h⟩ := u_i2l h (by decide +kernel : pins 178 404 = some (13, 405, 0, 0, []))
    obtain ⟨n31, w405, l31, e405, h⟩ := u_ladd h (by decide +kernel : pins 178 405 = some (11, 406, 0, 0, []))
    obtain ⟨n32, s406, l32, b406, S406, u406, h⟩ := w_last S391.1 h (by decide +kernel : pins 178 406 = some (30, 407, 0, 0, [])) (by decide)
    obtain ⟨n33, l33, h⟩ := v_al h (by decide +kernel : pins 178 407 = some (5, 408, 0, 0, [])) (v := t) rfl
    obtain ⟨n34, l34, h⟩ := w_row (k := 38) S406.1 h (by decide +kernel : pins 178 408 = some (22, 411, 13, 38, [])) (by decide)
    obtain ⟨n35, l35, h⟩ := v_il h (by decide +kernel : pins 178 411 = some (3, 413, 5, 0, [])) (v := th) rfl
    obtain ⟨n36, w413, l36, ⟨e413, i413⟩, h⟩ := u_ic h (by decide +kernel : pins 178 413 = some (0, 414, 0, 0, [])) (by decide)
    obtain ⟨n37, s414, l37, b414, S414, u414, h⟩ := w_bast S406.1 h (by decide +kernel : pins 178 414 = some (29, 415, 0, 0, [])) (by decide) (by decide)
    obtain ⟨n38, l38, h⟩ := v_al h (by decide +kernel : pins 178 415 = some (5, 416, 0, 0, [])) (v := t) rfl
    obtain ⟨n39, l39, h⟩ := w_row (k := 39) S414.1 h (by decide +kernel : pins 178 416 = some (22, 419, 13, 39, [])) (by decide)
    obtain ⟨n40, l40, h⟩ := v_il h (by decide +kernel : pins 178 419 = some (3, 421, 5, 0, [])) (v := th) rfl
    obtain ⟨n41, w421, l41, ⟨e421, i421⟩, h⟩ := u_ic h (by decide +kernel : pins 178 421 = some (0, 422, 0, 0, [])) (by decide)
    obtain ⟨n42, s422, l42, b422, S422, u422, h⟩ := w_iast S414.1 h (by decide +kernel : pins 178 422 = some (28, 423, 0, 0, [])) (by decide)
    obtain ⟨n43, l43, h⟩ := v_al h (by decide +kernel : pins 178 423 = some (5, 424, 0, 0, [])) (v := t) rfl
    obtain ⟨n44, l44, h⟩ := w_row (k := 65) S422.1 h (by decide +kernel : pins 178 424 = some (22, 427, 13, 65, [])) (by decide)
    obtain ⟨n45, l45, h⟩ := v_il h (by decide +kernel : pins 178 427 = some (3, 428, 2, 0, [])) (v := r) rfl
    obtain ⟨n46, w428, l46, b428, e428, h⟩ := w_iald S422.1 h (by decide +kernel : pins 178 428 = some (24, 429, 0, 0, [])) (by decide)
    obtain ⟨n47, l47, ⟨c429, h⟩ | ⟨c429, h⟩⟩ := u_if1 h (by decide +kernel : pins 178 429 = some (16, 432, 1, ((433 : Nat) : Int), []))
    · obtain ⟨n48, w433, l48, ⟨e433, i433⟩, h⟩ := u_ic h (by decide +kernel : pins 178 433 = some (0, 435, 24, 0, [])) (by decide)
      obtain ⟨n49, l49, h⟩ := v_il h (by decide +kernel : pins 178 435 = some (3, 436, 1, 0, [])) (v := hh) rfl
      obtain ⟨n50, w436, l50, e436, h⟩ := u_mul h (by decide +kernel : pins 178 436 = some (10, 437, 2, 0, []))
      obtain ⟨n51, l51, h⟩ := v_is h (by decide +kernel : pins 178 437 = some (6, 439, 6, 0, []))
      have h : prun n51 178 439 [(6, .int w436), (7, .int js), (5, .int th), (4, .int life), (3, .int sort), (0, .ref t), (1, .int hh), (2, .int r)] [] s422 = some x := h
      have h := prun_lv h (lv' := [(7, .int js), (6, .int w436), (5, .int th), (4, .int life), (3, .int sort), (0, .ref t), (1, .int hh), (2, .int r)]) (lvLe.cons (lvLe.cons (lvLe.cons (lvLe.cons (lvLe.cons (lvLe.cons (lvLe.cons (lvLe.cons lvLe.nil rfl) rfl) rfl) rfl) rfl) rfl) rfl) rfl) (by decide : ([6, 7, 5, 4, 3, 0, 1, 2] : List Nat).Nodup) (by decide : ([7, 6, 5, 4, 3, 0, 1, 2] : List Nat).Nodup)
      have hz : ∀ j q : Nat, ¬ ((35 ≤ j ∧ j ≤ 39) ∧ q = th.toNatClampNeg) → vw t A s422 j q = vw t A σ j q := by
        intro j q hj
        have z : ∀ (V : Nat → Nat → Value) (r : Nat) (v : Value), isRw r = true → 35 ≤ r → r ≤ 39 → up V r th.toNatClampNeg v j q = V j q := fun V r v hr h1 h2 => by
          by_cases e : j = r
          · subst e; exact up_ni hr (fun e => hj ⟨⟨h1, h2⟩, e⟩)
          · exact up_ne e
        rw [u422, z _ _ _ (by decide) (by decide) (by decide), u414, z _ _ _ (by decide) (by decide) (by decide), u406, z _ _ _ (by decide) (by decide) (by decide), u391, z _ _ _ (by decide) (by decide) (by decide), u380, z _ _ _ (by decide) (by decide) (by decide)]
      have t388 : w388 = gL (vw t A σ) 0 0 := by rw [e388, u380, gL_ne (by decide)]
      have t399 : w399 = gL (vw t A σ) 0 0 := by rw [e399, u391, gL_ne (by decide), u380, gL_ne (by decide)]
      have t0 : gL (vw t A s422) 0 0 = gL (vw t A σ) 0 0 := by unfold gL; rw [hz 0 0 (by omega)]
      have hF : EFresh (vw t A s422) th.toNatClampNeg life := by
        refine ⟨?_, ?_, ?_, ?_, ?_⟩
        · rw [u422, up_ne (by decide), u414, up_ne (by decide), u406, up_ne (by decide), u391, up_ne (by decide), u380, up_eq]
        · rw [t0, u422, up_ne (by decide), u414, up_ne (by decide), u406, up_ne (by decide), u391, up_eq, t388]
        · rw [t0, u422, up_ne (by decide), u414, up_ne (by decide), u406, up_eq, e405, t399, e404]
        · rw [u422, up_ne (by decide), u414, up_eq, e413]; rfl
        · rw [u422, up_eq, e421]; rfl
      have e32 : gI (vw t A s422) 32 hh.toNatClampNeg = gI (vw t A σ) 32 hh.toNatClampNeg := by unfold gI; rw [hz 32 _ (by omega)]
      have H2 : (th.toInt < 0 ∧ vw t A s422 = vw t A σ) ∨ (0 ≤ th.toInt ∧ EFresh (vw t A s422) th.toNatClampNeg life ∧ ∀ j q : Nat, ¬ ((35 ≤ j ∧ j ≤ 39) ∧ q = th.toNatClampNeg) → vw t A s422 j q = vw t A σ j q) := Or.inr ⟨by omega, hF, hz⟩
      have q436 : w436.toInt = 24 * hh.toInt := by rw [e436, n_mul (by rw [i433]; omega) (by rw [i433]; omega), i433]
      obtain ⟨y1, y2, y3⟩ := pc_rec_b hh0 _ _ _ x S422.1 ⟨by omega, by rw [e32]; exact hE.1, by rw [e32]; exact hE.2⟩ h
      rw [e32] at y3
      exact ⟨y1, ((((S380.tr S391).tr S406).tr S414).tr S422).tr y2, vw t A s422, H2, y3⟩
    · have ex := u_ret37 h (by decide +kernel : pins 178 432 = some (37, 433, 0, 0, []))
      subst ex
      have hz : ∀ j q : Nat, ¬ ((35 ≤ j ∧ j ≤ 39) ∧ q = th.toNatClampNeg) → vw t A s422 j q = vw t A σ j q := by
        intro j q hj
        have z : ∀ (V : Nat → Nat → Value) (r : Nat) (v : Value), isRw r = true → 35 ≤ r → r ≤ 39 → up V r th.toNatClampNeg v j q = V j q := fun V r v hr h1 h2 => by
          by_cases e : j = r
          · subst e; exact up_ni hr (fun e => hj ⟨⟨h1, h2⟩, e⟩)
          · exact up_ne e
        rw [u422, z _ _ _ (by decide) (by decide) (by decide), u414, z _ _ _ (by decide) (by decide) (by decide), u406, z _ _ _ (by decide) (by decide) (by decide), u391, z _ _ _ (by decide) (by decide) (by decide), u380, z _ _ _ (by decide) (by decide) (by decide)]
      have t388 : w388 = gL (vw t A σ) 0 0 := by rw [e388, u380, gL_ne (by decide)]
      have t399 : w399 = gL (vw t A σ) 0 0 := by rw [e399, u391, gL_ne (by decide), u380, gL_ne (by decide)]
      have t0 : gL (vw t A s422) 0 0 = gL (vw t A σ) 0 0 := by unfold gL; rw [hz 0 0 (by omega)]
      have hF : EFresh (vw t A s422) th.toNatClampNeg life := by
        refine ⟨?_, ?_, ?_, ?_, ?_⟩
        · rw [u422, up_ne (by decide), u414, up_ne (by decide), u406, up_ne (by decide), u391, up_ne (by decide), u380, up_eq]
        · rw [t0, u422, up_ne (by decide), u414, up_ne (by decide), u406, up_ne (by decide), u391, up_eq, t388]
        · rw [t0, u422, up_ne (by decide), u414, up_ne (by decide), u406, up_eq, e405, t399, e404]
        · rw [u422, up_ne (by decide), u414, up_eq, e413]; rfl
        · rw [u422, up_eq, e421]; rfl
      have e32 : gI (vw t A s422) 32 hh.toNatClampNeg = gI (vw t A σ) 32 hh.toNatClampNeg := by unfold gI; rw [hz 32 _ (by omega)]
      have H2 : (th.toInt < 0 ∧ vw t A s422 = vw t A σ) ∨ (0 ≤ th.toInt ∧ EFresh (vw t A s422) th.toNatClampNeg life ∧ ∀ j q : Nat, ¬ ((35 ≤ j ∧ j ≤ 39) ∧ q = th.toNatClampNeg) → vw t A s422 j q = vw t A σ j q) := Or.inr ⟨by omega, hF, hz⟩
      exact ⟨rfl, ((((S380.tr S391).tr S406).tr S414).tr S422), vw t A s422, H2, Dy.rf⟩
/-- what record does with the entries of host h -/
def Rec2 (V V' : Nat → Nat → Value) (h : Nat) (life : Int32) : Prop :=
  (∀ j q : Nat, ¬ (32 ≤ j ∧ j ≤ 41) → V' j q = V j q) ∧ (∀ q : Nat, ¬ q = h → V' 32 q = V 32 q) ∧ (∀ j q : Nat, (35 ≤ j ∧ j ≤ 39) → (q < 24 * h ∨ 24 * h + 24 ≤ q) → V' j q = V j q) ∧ ((gI V' 32 h).toInt = (gI V 32 h).toInt ∨ (gI V' 32 h).toInt = (gI V 32 h).toInt + 1) ∧ (0 ≤ (gI V' 32 h).toInt ∧ (gI V' 32 h).toInt ≤ 24) ∧
  ∃ f : Int, ∀ k : Nat, 24 * h ≤ k → (k : Int) < 24 * (h : Int) + (gI V' 32 h).toInt → (EOld V V' k ∧ (k : Int) < 24 * (h : Int) + (gI V 32 h).toInt) ∨ ((k : Int) = f ∧ EFresh V' k life ∧ ¬ life.toInt = 0)
theorem rec2_of {V V1 V2 V' : Nat → Nat → Value} {h : Nat} {life th : Int32} (hl : ¬ life.toInt = 0) (f1 : ∀ j q : Nat, ¬ (j = 32 ∨ j = 33 ∨ j = 34 ∨ j = 40 ∨ j = 41) → V1 j q = V j q) (f2 : ∀ q : Nat, ¬ q = h → V1 32 q = V 32 q) (hE : 0 ≤ (gI V1 32 h).toInt ∧ (gI V1 32 h).toInt ≤ 24)
    (hn : (gI V1 32 h).toInt = (gI V 32 h).toInt ∧ (th.toInt < 0 ∨ (24 * (h : Int) ≤ th.toInt ∧ th.toInt < 24 * (h : Int) + (gI V 32 h).toInt)) ∨ ((gI V1 32 h).toInt = (gI V 32 h).toInt + 1 ∧ th.toInt = 24 * (h : Int) + (gI V 32 h).toInt ∧ 0 ≤ (gI V 32 h).toInt))
    (h2 : (th.toInt < 0 ∧ V2 = V1) ∨ (0 ≤ th.toInt ∧ EFresh V2 th.toNatClampNeg life ∧ ∀ j q : Nat, ¬ ((35 ≤ j ∧ j ≤ 39) ∧ q = th.toNatClampNeg) → V2 j q = V1 j q)) (D : Dy V2 V' (24 * h) (24 * h + (gI V1 32 h).toNatClampNeg) th.toInt) : Rec2 V V' h life := by
  have hN : ((gI V1 32 h).toNatClampNeg : Int) = (gI V1 32 h).toInt := n_clamp hE.1
  have tn : 0 ≤ th.toInt → (th.toNatClampNeg : Int) = th.toInt := fun a => n_clamp a
  have g2 : ∀ j q : Nat, ¬ (35 ≤ j ∧ j ≤ 39) → V2 j q = V1 j q := by
    intro j q hj
    rcases h2 with ⟨_, e⟩ | ⟨_, _, e⟩
    · rw [e]
    · exact e j q (fun x => hj x.1)
  have g3 : ∀ j q : Nat, ¬ ((q : Int) = th.toInt) → V2 j q = V1 j q := by
    intro j q hq
    rcases h2 with ⟨_, e⟩ | ⟨e0, _, e⟩
    · rw [e]
    · exact e j q (fun x => hq (by have := tn e0; omega))
  have e32 : ∀ q, V' 32 q = V1 32 q := fun q => (D.1 32 q (by decide)).trans (g2 32 q (by decide))
  have n32 : gI V' 32 h = gI V1 32 h := by unfold gI; rw [e32]
  have T2 : gL V2 0 0 = gL V1 0 0 := by unfold gL; rw [g2 0 0 (by decide)]
  refine ⟨fun j q hj => ?_, fun q hq => (e32 q).trans (f2 q hq), fun j q hj hq => ?_, ?_, by rw [n32]; exact hE, th.toInt, fun k k1 k2 => ?_⟩
  · rw [D.1 j q (by omega), g2 j q (by omega), f1 j q (by omega)]
  · have hq' : ¬ (q : Int) = th.toInt := by
      rcases hn with ⟨_, a | a⟩ | a
      · omega
      · omega
      · omega
    have a : V' j q = V2 j q := by
      by_cases e7 : j = 37
      · subst e7; exact ((D.2 q).2 (by omega)).1
      · by_cases e8 : j = 38
        · subst e8; exact ((D.2 q).2 (by omega)).2
        · exact D.1 j q (by omega)
    rw [a, g3 j q hq', f1 j q (by omega)]
  · rw [n32]
    rcases hn with a | a
    · exact Or.inl a.1
    · exact Or.inr a.1
  · rw [n32] at k2
    by_cases e : (k : Int) = th.toInt
    · refine Or.inr ⟨e, ?_, hl⟩
      rcases h2 with ⟨a, _⟩ | ⟨a, F, _⟩
      · omega
      · have ek : k = th.toNatClampNeg := by have := tn a; omega
        subst ek
        obtain ⟨F1, F2, F3, F4, F5⟩ := F
        have T' : gL V' 0 0 = gL V2 0 0 := by unfold gL; rw [D.1 0 0 (by decide)]
        have d := (D.2 th.toNatClampNeg).2 (by omega)
        exact ⟨by rw [D.1 35 _ (by decide)]; exact F1, by rw [D.1 36 _ (by decide), T']; exact F2, by rw [d.1, T']; exact F3, by rw [d.2]; exact F4, by rw [D.1 39 _ (by decide)]; exact F5⟩
    · refine Or.inl ⟨?_, ?_⟩
      · have o1 : EOld V V2 k := ⟨by rw [g3 _ _ e, f1 _ _ (by decide)], by rw [g3 _ _ e, f1 _ _ (by decide)], by rw [g3 _ _ e, f1 _ _ (by decide)], Or.inl ⟨by rw [g3 _ _ e, f1 _ _ (by decide)], by rw [g3 _ _ e, f1 _ _ (by decide)]⟩⟩
        exact EOld.tr (by rw [T2]; unfold gL; rw [f1 0 0 (by decide)]) o1 (D.2 k).1
      · rcases hn with a | a
        · omega
        · omega
set_option maxHeartbeats 1000000 in
theorem pc_rec_c {t n : Nat} {A : Nat → Nat} {hh c th life sort r js : Int32} {σ : ps} {x : Option Value × ps} (W : Wld t A σ) (h : prun n 178 234 [(7, .int js), (6, .int c), (5, .int th), (4, .int life), (3, .int sort), (0, .ref t), (1, .int hh), (2, .int r)] [] σ = some x) (hh0 : 0 ≤ hh.toInt ∧ hh.toInt ≤ 7) (hE : 0 ≤ (gI (vw t A σ) 32 hh.toNatClampNeg).toInt ∧ (gI (vw t A σ) 32 hh.toNatClampNeg).toInt ≤ 24) (hth : (th.toInt = -1 ∨ (24 * hh.toInt ≤ th.toInt ∧ th.toInt < 24 * hh.toInt + (gI (vw t A σ) 32 hh.toNatClampNeg).toInt))) : x.1 = none ∧ SP t A σ x.2 ∧ Rec2 (vw t A σ) (vw t A x.2) hh.toNatClampNeg life := by
  obtain ⟨n1, l1, h⟩ := v_il h (by decide +kernel : pins 178 234 = some (3, 236, 4, 0, [])) (v := life) rfl
  obtain ⟨n2, l2, ⟨c236, h⟩ | ⟨c236, h⟩⟩ := u_if1 h (by decide +kernel : pins 178 236 = some (16, 239, 1, ((251 : Nat) : Int), []))
  · obtain ⟨n3, l3, h⟩ := v_il h (by decide +kernel : pins 178 251 = some (3, 253, 5, 0, [])) (v := th) rfl
    obtain ⟨n4, l4, ⟨c253, h⟩ | ⟨c253, h⟩⟩ := u_if3 h (by decide +kernel : pins 178 253 = some (16, 256, 3, ((367 : Nat) : Int), []))
    · have h := prun_lv h (lv' := [(7, .int js), (6, .int c), (5, .int th), (4, .int life), (3, .int sort), (0, .ref t), (1, .int hh), (2, .int r)]) (lvLe.cons (lvLe.cons (lvLe.cons (lvLe.cons (lvLe.cons (lvLe.cons (lvLe.cons (lvLe.cons lvLe.nil rfl) rfl) rfl) rfl) rfl) rfl) rfl) rfl) (by decide : ([7, 6, 5, 4, 3, 0, 1, 2] : List Nat).Nodup) (by decide : ([7, 6, 5, 4, 3, 0, 1, 2] : List Nat).Nodup)
      have hn : (hh.toNatClampNeg : Int) = hh.toInt := n_clamp hh0.1
      obtain ⟨y1, y2, V2, y3, y4⟩ := pc_rec_d W h hh0 hE
      exact ⟨y1, y2, rec2_of c236 (fun _ _ _ => rfl) (fun _ _ => rfl) hE (Or.inl ⟨rfl, by omega⟩) y3 y4⟩
    · obtain ⟨n5, l5, h⟩ := v_al h (by decide +kernel : pins 178 256 = some (5, 257, 0, 0, [])) (v := t) rfl
      obtain ⟨n6, l6, h⟩ := w_row (k := 32) W h (by decide +kernel : pins 178 257 = some (22, 260, 13, 32, [])) (by decide)
      obtain ⟨n7, l7, h⟩ := v_il h (by decide +kernel : pins 178 260 = some (3, 261, 1, 0, [])) (v := hh) rfl
      obtain ⟨n8, w261, l8, b261, e261, h⟩ := w_iald W h (by decide +kernel : pins 178 261 = some (24, 262, 0, 0, [])) (by decide)
      obtain ⟨n9, w262, l9, ⟨e262, i262⟩, h⟩ := u_ic h (by decide +kernel : pins 178 262 = some (0, 264, 24, 0, [])) (by decide)
      obtain ⟨n10, l10, ⟨c264, h⟩ | ⟨c264, h⟩⟩ := u_ic3 h (by decide +kernel : pins 178 264 = some (17, 267, 3, ((367 : Nat) : Int), []))
      · have h := prun_lv h (lv' := [(7, .int js), (6, .int c), (5, .int th), (4, .int life), (3, .int sort), (0, .ref t), (1, .int hh), (2, .int r)]) (lvLe.cons (lvLe.cons (lvLe.cons (lvLe.cons (lvLe.cons (lvLe.cons (lvLe.cons (lvLe.cons lvLe.nil rfl) rfl) rfl) rfl) rfl) rfl) rfl) rfl) (by decide : ([7, 6, 5, 4, 3, 0, 1, 2] : List Nat).Nodup) (by decide : ([7, 6, 5, 4, 3, 0, 1, 2] : List Nat).Nodup)
        have hn : (hh.toNatClampNeg : Int) = hh.toInt := n_clamp hh0.1
        obtain ⟨y1, y2, V2, y3, y4⟩ := pc_rec_d W h hh0 hE
        exact ⟨y1, y2, rec2_of c236 (fun _ _ _ => rfl) (fun _ _ => rfl) hE (Or.inl ⟨rfl, by omega⟩) y3 y4⟩
      · obtain ⟨n11, w267, l11, ⟨e267, i267⟩, h⟩ := u_ic h (by decide +kernel : pins 178 267 = some (0, 269, 24, 0, [])) (by decide)
        obtain ⟨n12, l12, h⟩ := v_il h (by decide +kernel : pins 178 269 = some (3, 270, 1, 0, [])) (v := hh) rfl
        obtain ⟨n13, w270, l13, e270, h⟩ := u_mul h (by decide +kernel : pins 178 270 = some (10, 271, 2, 0, []))
        obtain ⟨n14, l14, h⟩ := v_al h (by decide +kernel : pins 178 271 = some (5, 272, 0, 0, [])) (v := t) rfl
        obtain ⟨n15, l15, h⟩ := w_row (k := 32) W h (by decide +kernel : pins 178 272 = some (22, 275, 13, 32, [])) (by decide)
        obtain ⟨n16, l16, h⟩ := v_il h (by decide +kernel : pins 178 275 = some (3, 276, 1, 0, [])) (v := hh) rfl
        obtain ⟨n17, w276, l17, b276, e276, h⟩ := w_iald W h (by decide +kernel : pins 178 276 = some (24, 277, 0, 0, [])) (by decide)
        obtain ⟨n18, w277, l18, e277, h⟩ := u_add h (by decide +kernel : pins 178 277 = some (10, 278, 0, 0, []))
        obtain ⟨n19, l19, h⟩ := v_is h (by decide +kernel : pins 178 278 = some (6, 280, 5, 0, []))
        have h : prun n19 178 280 [(5, .int w277), (7, .int js), (6, .int c), (4, .int life), (3, .int sort), (0, .ref t), (1, .int hh), (2, .int r)] [] σ = some x := h
        obtain ⟨n20, l20, h⟩ := v_al h (by decide +kernel : pins 178 280 = some (5, 281, 0, 0, [])) (v := t) rfl
        obtain ⟨n21, l21, h⟩ := w_row (k := 32) W h (by decide +kernel : pins 178 281 = some (22, 284, 13, 32, [])) (by decide)
        obtain ⟨n22, l22, h⟩ := v_il h (by decide +kernel : pins 178 284 = some (3, 285, 1, 0, [])) (v := hh) rfl
        obtain ⟨n23, l23, h⟩ := v_dup2 h (by decide +kernel : pins 178 285 = some (35, 286, 0, 0, []))
        obtain ⟨n24, w286, l24, b286, e286, h⟩ := w_iald W h (by decide +kernel : pins 178 286 = some (24, 287, 0, 0, [])) (by decide)
        obtain ⟨n25, w287, l25, ⟨e287, i287⟩, h⟩ := u_ic h (by decide +kernel : pins 178 287 = some (0, 288, 1, 0, [])) (by decide)
        obtain ⟨n26, w288, l26, e288, h⟩ := u_add h (by decide +kernel : pins 178 288 = some (10, 289, 0, 0, []))
        obtain ⟨n27, s289, l27, b289, S289, u289, h⟩ := w_iast W h (by decide +kernel : pins 178 289 = some (28, 290, 0, 0, [])) (by decide)
        obtain ⟨n28, l28, h⟩ := v_al h (by decide +kernel : pins 178 290 = some (5, 291, 0, 0, [])) (v := t) rfl
        obtain ⟨n29, l29, h⟩ := w_row (k := 33) S289.1 h (by decide +kernel : pins 178 291 = some (22, 294, 13, 33, [])) (by decide)
        obtain ⟨n30, l30, h⟩ := v_il h (by decide +kernel : pins 178 294 = some (3, 296, 5, 0, [])) (v := w277) rfl
        obtain ⟨n31, l31, h⟩ := v_il h (by decide +kernel : pins 178 296 = some (3, 297, 3, 0, [])) (v := sort) rfl
        obtain ⟨n32, s297, l32, b297, S297, u297, h⟩ := w_iast S289.1 h (by decide +kernel : pins 178 297 = some (28, 298, 0, 0, [])) (by decide)
        obtain ⟨n33, l33, h⟩ := v_al h (by decide +kernel : pins 178 298 = some (5, 299, 0, 0, [])) (v := t) rfl
        obtain ⟨n34, l34, h⟩ := w_row (k := 34) S297.1 h (by decide +kernel : pins 178 299 = some (22, 302, 13, 34, [])) (by decide)
        obtain ⟨n35, l35, h⟩ := v_il h (by decide +kernel : pins 178 302 = some (3, 304, 5, 0, [])) (v := w277) rfl
        obtain ⟨n36, l36, h⟩ := v_al h (by decide +kernel : pins 178 304 = some (5, 305, 0, 0, [])) (v := t) rfl
        obtain ⟨n37, l37, h⟩ := w_row (k := 67) S297.1 h (by decide +kernel : pins 178 305 = some (22, 308, 13, 67, [])) (by decide)
        obtain ⟨n38, l38, h⟩ := v_il h (by decide +kernel : pins 178 308 = some (3, 309, 2, 0, [])) (v := r) rfl
        obtain ⟨n39, w309, l39, b309, e309, h⟩ := w_iald S297.1 h (by decide +kernel : pins 178 309 = some (24, 310, 0, 0, [])) (by decide)
        obtain ⟨n40, s310, l40, b310, S310, u310, h⟩ := w_iast S297.1 h (by decide +kernel : pins 178 310 = some (28, 311, 0, 0, [])) (by decide)
        obtain ⟨n41, l41, h⟩ := v_al h (by decide +kernel : pins 178 311 = some (5, 312, 0, 0, [])) (v := t) rfl
        obtain ⟨n42, l42, h⟩ := w_row (k := 62) S310.1 h (by decide +kernel : pins 178 312 = some (22, 315, 13, 62, [])) (by decide)
        obtain ⟨n43, w315, l43, ⟨e315, i315⟩, h⟩ := u_ic h (by decide +kernel : pins 178 315 = some (0, 317, 16, 0, [])) (by decide)
        obtain ⟨n44, l44, h⟩ := v_il h (by decide +kernel : pins 178 317 = some (3, 318, 2, 0, [])) (v := r) rfl
        obtain ⟨n45, w318, l45, e318, h⟩ := u_mul h (by decide +kernel : pins 178 318 = some (10, 319, 2, 0, []))
        obtain ⟨n46, l46, h⟩ := v_al h (by decide +kernel : pins 178 319 = some (5, 320, 0, 0, [])) (v := t) rfl
        obtain ⟨n47, l47, h⟩ := w_row (k := 40) S310.1 h (by decide +kernel : pins 178 320 = some (22, 323, 13, 40, [])) (by decide)
        obtain ⟨n48, w323, l48, ⟨e323, i323⟩, h⟩ := u_ic h (by decide +kernel : pins 178 323 = some (0, 325, 16, 0, [])) (by decide)
        obtain ⟨n49, l49, h⟩ := v_il h (by decide +kernel : pins 178 325 = some (3, 327, 5, 0, [])) (v := w277) rfl
        obtain ⟨n50, w327, l50, e327, h⟩ := u_mul h (by decide +kernel : pins 178 327 = some (10, 328, 2, 0, []))
        obtain ⟨n51, r328, s328, l51, h328, h⟩ := pinv_call h (by decide +kernel : pins 178 328 = some (36, 331, 142, 1, [4]))
        have h328 : prun n51 142 0 (lv_args 0 [.ref (A 62), .int w318, .ref (A 40), .int w327]) [] s310 = some (r328, s328) := h328
        obtain ⟨er328, S328, f328⟩ := pc_copy S310.1 h328 (by decide) (by decide)
        have er328 : r328 = none := er328
        subst er328
        try dsimp only at S328
        try dsimp only at f328
        have h : prun n51 178 331 [(5, .int w277), (7, .int js), (6, .int c), (4, .int life), (3, .int sort), (0, .ref t), (1, .int hh), (2, .int r)] [] s328 = some x := h
        obtain ⟨n52, l52, h⟩ := v_al h (by decide +kernel : pins 178 331 = some (5, 332, 0, 0, [])) (v := t) rfl
        obtain ⟨n53, l53, h⟩ := w_row (k := 63) S328.1 h (by decide +kernel : pins 178 332 = some (22, 335, 13, 63, [])) (by decide)
        obtain ⟨n54, w335, l54, ⟨e335, i335⟩, h⟩ := u_ic h (by decide +kernel : pins 178 335 = some (0, 337, 16, 0, [])) (by decide)
        obtain ⟨n55, l55, h⟩ := v_il h (by decide +kernel : pins 178 337 = some (3, 338, 2, 0, [])) (v := r) rfl
        obtain ⟨n56, w338, l56, e338, h⟩ := u_mul h (by decide +kernel : pins 178 338 = some (10, 339, 2, 0, []))
        obtain ⟨n57, l57, h⟩ := v_al h (by decide +kernel : pins 178 339 = some (5, 340, 0, 0, [])) (v := t) rfl
        obtain ⟨n58, l58, h⟩ := w_row (k := 41) S328.1 h (by decide +kernel : pins 178 340 = some (22, 343, 13, 41, [])) (by decide)
        obtain ⟨n59, w343, l59, ⟨e343, i343⟩, h⟩ := u_ic h (by decide +kernel : pins 178 343 = some (0, 345, 16, 0, [])) (by decide)
        obtain ⟨n60, l60, h⟩ := v_il h (by decide +kernel : pins 178 345 = some (3, 347, 5, 0, [])) (v := w277) rfl
        obtain ⟨n61, w347, l61, e347, h⟩ := u_mul h (by decide +kernel : pins 178 347 = some (10, 348, 2, 0, []))
        obtain ⟨n62, r348, s348, l62, h348, h⟩ := pinv_call h (by decide +kernel : pins 178 348 = some (36, 351, 142, 1, [4]))
        have h348 : prun n62 142 0 (lv_args 0 [.ref (A 63), .int w338, .ref (A 41), .int w347]) [] s328 = some (r348, s348) := h348
        obtain ⟨er348, S348, f348⟩ := pc_copy S328.1 h348 (by decide) (by decide)
        have er348 : r348 = none := er348
        subst er348
        try dsimp only at S348
        try dsimp only at f348
        have h : prun n62 178 351 [(5, .int w277), (7, .int js), (6, .int c), (4, .int life), (3, .int sort), (0, .ref t), (1, .int hh), (2, .int r)] [] s348 = some x := h
        obtain ⟨n63, l63, h⟩ := v_il h (by decide +kernel : pins 178 351 = some (3, 352, 3, 0, [])) (v := sort) rfl
        obtain ⟨n64, w352, l64, ⟨e352, i352⟩, h⟩ := u_ic h (by decide +kernel : pins 178 352 = some (0, 353, 1, 0, [])) (by decide)
        obtain ⟨n65, l65, ⟨c353, h⟩ | ⟨c353, h⟩⟩ := u_ic1 h (by decide +kernel : pins 178 353 = some (17, 356, 1, ((367 : Nat) : Int), []))
        · have h := prun_lv h (lv' := [(7, .int js), (6, .int c), (5, .int w277), (4, .int life), (3, .int sort), (0, .ref t), (1, .int hh), (2, .int r)]) (lvLe.cons (lvLe.cons (lvLe.cons (lvLe.cons (lvLe.cons (lvLe.cons (lvLe.cons (lvLe.cons lvLe.nil rfl) rfl) rfl) rfl) rfl) rfl) rfl) rfl) (by decide : ([5, 7, 6, 4, 3, 0, 1, 2] : List Nat).Nodup) (by decide : ([7, 6, 5, 4, 3, 0, 1, 2] : List Nat).Nodup)
          have hn : (hh.toNatClampNeg : Int) = hh.toInt := n_clamp hh0.1
          have f1 : ∀ j q : Nat, ¬ (j = 32 ∨ j = 33 ∨ j = 34 ∨ j = 40 ∨ j = 41) → vw t A s348 j q = vw t A σ j q := by
            intro j q hj
            rw [f348 j q (by omega), f328 j q (by omega), u310, up_ne (by omega), u297, up_ne (by omega), u289, up_ne (by omega)]
          have f32 : ∀ q, vw t A s348 32 q = vw t A s289 32 q := by
            intro q
            rw [f348 32 q (by decide), f328 32 q (by decide), u310, up_ne (by decide), u297, up_ne (by decide)]
          have q270 : w270.toInt = 24 * hh.toInt := by rw [e270, n_mul (by rw [i267]; omega) (by rw [i267]; omega), i267]
          have q261 : w261.toInt = (gI (vw t A σ) 32 hh.toNatClampNeg).toInt := by rw [e261]
          have q276 : w276.toInt = (gI (vw t A σ) 32 hh.toNatClampNeg).toInt := by rw [e276]
          have q277 : w277.toInt = 24 * hh.toInt + w276.toInt := by rw [addc e277 rfl (by omega) (by omega) (by omega) (by omega), q270]
          have q286 : w286 = (gI (vw t A σ) 32 hh.toNatClampNeg) := e286
          have q288 : w288.toInt = (gI (vw t A σ) 32 hh.toNatClampNeg).toInt + 1 := by rw [addc e288 i287 (by rw [q286]; omega) (by rw [q286]; omega) (by decide) (by decide), q286]
          have n32 : gI (vw t A s348) 32 hh.toNatClampNeg = w288 := by unfold gI; rw [f32, u289, up_eq]; rfl
          have hE2 : 0 ≤ (gI (vw t A s348) 32 hh.toNatClampNeg).toInt ∧ (gI (vw t A s348) 32 hh.toNatClampNeg).toInt ≤ 24 := by rw [n32]; omega
          obtain ⟨y1, y2, V2, y3, y4⟩ := pc_rec_d S348.1 h hh0 hE2
          exact ⟨y1, ((((S289.tr S297).tr S310).tr S328).tr S348).tr y2, rec2_of c236 f1 (fun q hq => by rw [f32, u289, up_ni (by decide) hq]) hE2 (Or.inr ⟨by rw [n32]; exact q288, by rw [hn]; omega, hE.1⟩) y3 y4⟩
        · obtain ⟨n66, l66, h⟩ := v_al h (by decide +kernel : pins 178 356 = some (5, 357, 0, 0, [])) (v := t) rfl
          obtain ⟨n67, l67, h⟩ := w_row (k := 41) S348.1 h (by decide +kernel : pins 178 357 = some (22, 360, 13, 41, [])) (by decide)
          obtain ⟨n68, w360, l68, ⟨e360, i360⟩, h⟩ := u_ic h (by decide +kernel : pins 178 360 = some (0, 362, 16, 0, [])) (by decide)
          obtain ⟨n69, l69, h⟩ := v_il h (by decide +kernel : pins 178 362 = some (3, 364, 5, 0, [])) (v := w277) rfl
          obtain ⟨n70, w364, l70, e364, h⟩ := u_mul h (by decide +kernel : pins 178 364 = some (10, 365, 2, 0, []))
          obtain ⟨n71, w365, l71, ⟨e365, i365⟩, h⟩ := u_ic h (by decide +kernel : pins 178 365 = some (0, 366, 0, 0, [])) (by decide)
          obtain ⟨n72, s366, l72, b366, S366, u366, h⟩ := w_iast S348.1 h (by decide +kernel : pins 178 366 = some (28, 367, 0, 0, [])) (by decide)
          have h := prun_lv h (lv' := [(7, .int js), (6, .int c), (5, .int w277), (4, .int life), (3, .int sort), (0, .ref t), (1, .int hh), (2, .int r)]) (lvLe.cons (lvLe.cons (lvLe.cons (lvLe.cons (lvLe.cons (lvLe.cons (lvLe.cons (lvLe.cons lvLe.nil rfl) rfl) rfl) rfl) rfl) rfl) rfl) rfl) (by decide : ([5, 7, 6, 4, 3, 0, 1, 2] : List Nat).Nodup) (by decide : ([7, 6, 5, 4, 3, 0, 1, 2] : List Nat).Nodup)
          have hn : (hh.toNatClampNeg : Int) = hh.toInt := n_clamp hh0.1
          have f1 : ∀ j q : Nat, ¬ (j = 32 ∨ j = 33 ∨ j = 34 ∨ j = 40 ∨ j = 41) → vw t A s366 j q = vw t A σ j q := by
            intro j q hj
            rw [u366, up_ne (by omega), f348 j q (by omega), f328 j q (by omega), u310, up_ne (by omega), u297, up_ne (by omega), u289, up_ne (by omega)]
          have f32 : ∀ q, vw t A s366 32 q = vw t A s289 32 q := by
            intro q
            rw [u366, up_ne (by decide), f348 32 q (by decide), f328 32 q (by decide), u310, up_ne (by decide), u297, up_ne (by decide)]
          have q270 : w270.toInt = 24 * hh.toInt := by rw [e270, n_mul (by rw [i267]; omega) (by rw [i267]; omega), i267]
          have q261 : w261.toInt = (gI (vw t A σ) 32 hh.toNatClampNeg).toInt := by rw [e261]
          have q276 : w276.toInt = (gI (vw t A σ) 32 hh.toNatClampNeg).toInt := by rw [e276]
          have q277 : w277.toInt = 24 * hh.toInt + w276.toInt := by rw [addc e277 rfl (by omega) (by omega) (by omega) (by omega), q270]
          have q286 : w286 = (gI (vw t A σ) 32 hh.toNatClampNeg) := e286
          have q288 : w288.toInt = (gI (vw t A σ) 32 hh.toNatClampNeg).toInt + 1 := by rw [addc e288 i287 (by rw [q286]; omega) (by rw [q286]; omega) (by decide) (by decide), q286]
          have n32 : gI (vw t A s366) 32 hh.toNatClampNeg = w288 := by unfold gI; rw [f32, u289, up_eq]; rfl
          have hE2 : 0 ≤ (gI (vw t A s366) 32 hh.toNatClampNeg).toInt ∧ (gI (vw t A s366) 32 hh.toNatClampNeg).toInt ≤ 24 := by rw [n32]; omega
          obtain ⟨y1, y2, V2, y3, y4⟩ := pc_rec_d S366.1 h hh0 hE2
          exact ⟨y1, (((((S289.tr S297).tr S310).tr S328).tr S348).tr S366).tr y2, rec2_of c236 f1 (fun q hq => by rw [f32, u289, up_ni (by decide) hq]) hE2 (Or.inr ⟨by rw [n32]; exact q288, by rw [hn]; omega, hE.1⟩) y3 y4⟩
  · obtain ⟨n73, l73, h⟩ := v_il h (by decide +kernel : pins 178 239 = some (3, 241, 5, 0, [])) (v := th) rfl
    obtain ⟨n74, l74, ⟨c241, h⟩ | ⟨c241, h⟩⟩ := u_if2 h (by decide +kernel : pins 178 241 = some (16, 244, 2, ((250 : Nat) : Int), []))
    · have ex := u_ret37 h (by decide +kernel : pins 178 250 = some (37, 251, 0, 0, []))
      subst ex
      have hn : (hh.toNatClampNeg : Int) = hh.toInt := n_clamp hh0.1
      refine ⟨rfl, SP.rf W, ⟨fun _ _ _ => rfl, fun _ _ => rfl, fun _ _ _ _ => rfl, Or.inl rfl, hE, -1, fun k k1 k2 => Or.inl ⟨EOld.rf, k2⟩⟩⟩
    · obtain ⟨n76, l76, h⟩ := v_al h (by decide +kernel : pins 178 244 = some (5, 245, 0, 0, [])) (v := t) rfl
      obtain ⟨n77, l77, h⟩ := v_il h (by decide +kernel : pins 178 245 = some (3, 247, 5, 0, [])) (v := th) rfl
      obtain ⟨n78, r247, s247, l78, h247, h⟩ := pinv_call h (by decide +kernel : pins 178 247 = some (36, 250, 177, 0, [2]))
      have h247 : prun n78 177 0 (lv_args 0 [.ref t, .int th]) [] σ = some (r247, s247) := h247
      obtain ⟨er247, S247, d247⟩ := pc_dies W h247
      have er247 : r247 = none := er247
      subst er247
      try dsimp only at S247
      try dsimp only at d247
      have h : prun n78 178 250 [(7, .int js), (6, .int c), (5, .int th), (4, .int life), (3, .int sort), (0, .ref t), (1, .int hh), (2, .int r)] [] s247 = some x := h
      have ex := u_ret37 h (by decide +kernel : pins 178 250 = some (37, 251, 0, 0, []))
      subst ex
      have hn : (hh.toNatClampNeg : Int) = hh.toInt := n_clamp hh0.1
      have tn : (th.toNatClampNeg : Int) = th.toInt := n_clamp (by omega)
      have en : ((gI (vw t A σ) 32 hh.toNatClampNeg).toNatClampNeg : Int) = (gI (vw t A σ) 32 hh.toNatClampNeg).toInt := n_clamp hE.1
      have D : Dy (vw t A σ) (vw t A s247) (24 * hh.toNatClampNeg) (24 * hh.toNatClampNeg + (gI (vw t A σ) 32 hh.toNatClampNeg).toNatClampNeg) (-1) := dies_Dy d247 (by omega) (by omega) (by omega)
      have e32 : gI (vw t A s247) 32 hh.toNatClampNeg = gI (vw t A σ) 32 hh.toNatClampNeg := by unfold gI; rw [D.1 32 _ (by decide)]
      refine ⟨rfl, S247, ⟨fun j q hj => D.1 j q (by omega), fun q hq => D.1 32 q (by decide), fun j q hj hq => ?_, Or.inl (by show (gI (vw t A s247) _ _).toInt = _; rw [e32]), by show 0 ≤ (gI (vw t A s247) _ _).toInt ∧ (gI (vw t A s247) _ _).toInt ≤ 24; rw [e32]; exact hE, -1, fun k k1 k2 => Or.inl ⟨(D.2 k).1, by have k2 : (k : Int) < 24 * (hh.toNatClampNeg : Int) + (gI (vw t A s247) 32 hh.toNatClampNeg).toInt := k2; rw [e32] at k2; exact k2⟩⟩⟩
      show vw t A s247 j q = _
      by_cases e7 : j = 37
      · subst e7; exact ((D.2 q).2 (by omega)).1
      · by_cases e8 : j = 38
        · subst e8; exact ((D.2 q).2 (by omega)).2
        · exact D.1 j q (by omega)
def Bad (V : Nat → Nat → Value) (h : Nat) : Prop := ∃ d : Nat, 1 ≤ d ∧ (d : Int) ≤ (gI V 21 (16 * h)).toInt ∧ (gI V 21 (16 * h + d)).toInt = 40
def Ren (V V' : Nat → Nat → Value) (h : Nat) : Prop := (∀ j q : Nat, ¬ ((j = 8 ∨ j = 16 ∨ j = 17 ∨ j = 18 ∨ j = 19) ∧ q = h) → ¬ (j = 21 ∧ 16 * h ≤ q ∧ q < 16 * h + 16) → V' j q = V j q) ∧ gI V' 19 h = gI V 19 h + 1 ∧ (gI V' 16 h).toInt = 2 ∧ (gI V' 17 h).toInt = 0 ∧ ((gI V' 19 h).toInt = -2147483648 → ∃ d : Nat, 1 ≤ d ∧ (d : Int) ≤ (gI V' 21 (16 * h)).toInt ∧ (gI V' 21 (16 * h + d)).toInt = 40)
def PNm (V V' : Nat → Nat → Value) (h : Nat) : Prop := (∀ j q : Nat, ¬ ((j = 8 ∨ j = 16 ∨ j = 17 ∨ j = 18) ∧ q = h) → V' j q = V j q) ∧ (gI V' 16 h).toInt = 2 ∧ (gI V' 17 h).toInt = 0
def Hst (V V' : Nat → Nat → Value) (h : Nat) : Prop := V' = V ∨ (¬ Bad V h ∧ Ren V V' h) ∨ ((gI V 16 h).toInt = 3 ∧ PNm V V' h)
set_option maxHeartbeats 2000000 in
theorem pc_record {t n : Nat} {A : Nat → Nat} {hh r : Int32} {σ : ps} {x : Option Value × ps} (W : Wld t A σ) (h : prun n 178 0 (lv_args 0 [.ref t, .int hh, .int r]) [] σ = some x) (hh0 : 0 ≤ hh.toInt ∧ hh.toInt ≤ 7) (hr0 : 0 ≤ r.toInt ∧ r.toInt ≤ 7) (hw : 0 ≤ (gI (vw t A σ) 20 (16 * hh.toNatClampNeg)).toInt ∧ (gI (vw t A σ) 20 (16 * hh.toNatClampNeg)).toInt ≤ 15) (hS : (gI (vw t A σ) 16 hh.toNatClampNeg).toInt ≤ 3) (hE : 0 ≤ (gI (vw t A σ) 32 hh.toNatClampNeg).toInt ∧ (gI (vw t A σ) 32 hh.toNatClampNeg).toInt ≤ 24) (hG : Wok (vw t A σ) 62 (16 * r.toNatClampNeg)) : x.1 = none ∧ SP t A σ x.2 ∧ ∃ Vm, Hst (vw t A σ) Vm hh.toNatClampNeg ∧ Rec2 Vm (vw t A x.2) hh.toNatClampNeg (gI (vw t A σ) 66 r.toNatClampNeg) := by
  have h : prun n 178 0 [(0, .ref t), (1, .int hh), (2, .int r)] [] σ = some x := h
  obtain ⟨n1, l1, h⟩ := v_al h (by decide +kernel : pins 178 0 = some (5, 1, 0, 0, [])) (v := t) rfl
  obtain ⟨n2, l2, h⟩ := w_row (k := 64) W h (by decide +kernel : pins 178 1 = some (22, 4, 13, 64, [])) (by decide)
  obtain ⟨n3, l3, h⟩ := v_il h (by decide +kernel : pins 178 4 = some (3, 5, 2, 0, [])) (v := r) rfl
  obtain ⟨n4, w5, l4, b5, e5, h⟩ := w_iald W h (by decide +kernel : pins 178 5 = some (24, 6, 0, 0, [])) (by decide)
  obtain ⟨n5, l5, h⟩ := v_is h (by decide +kernel : pins 178 6 = some (6, 7, 3, 0, []))
  have h : prun n5 178 7 [(3, .int w5), (0, .ref t), (1, .int hh), (2, .int r)] [] σ = some x := h
  obtain ⟨n6, l6, h⟩ := v_al h (by decide +kernel : pins 178 7 = some (5, 8, 0, 0, [])) (v := t) rfl
  obtain ⟨n7, l7, h⟩ := w_row (k := 66) W h (by decide +kernel : pins 178 8 = some (22, 11, 13, 66, [])) (by decide)
  obtain ⟨n8, l8, h⟩ := v_il h (by decide +kernel : pins 178 11 = some (3, 12, 2, 0, [])) (v := r) rfl
  obtain ⟨n9, w12, l9, b12, e12, h⟩ := w_iald W h (by decide +kernel : pins 178 12 = some (24, 13, 0, 0, [])) (by decide)
  obtain ⟨n10, l10, h⟩ := v_is h (by decide +kernel : pins 178 13 = some (6, 15, 4, 0, []))
  have h : prun n10 178 15 [(4, .int w12), (3, .int w5), (0, .ref t), (1, .int hh), (2, .int r)] [] σ = some x := h
  obtain ⟨n11, l11, h⟩ := v_il h (by decide +kernel : pins 178 15 = some (3, 16, 3, 0, [])) (v := w5) rfl
  obtain ⟨n12, w16, l12, ⟨e16, i16⟩, h⟩ := u_ic h (by decide +kernel : pins 178 16 = some (0, 17, 1, 0, [])) (by decide)
  obtain ⟨n13, l13, ⟨c17, h⟩ | ⟨c17, h⟩⟩ := u_ic1 h (by decide +kernel : pins 178 17 = some (17, 20, 1, ((104 : Nat) : Int), []))
  · obtain ⟨n14, w104, l14, ⟨e104, i104⟩, h⟩ := u_ic h (by decide +kernel : pins 178 104 = some (0, 105, (-1), 0, [])) (by decide)
    obtain ⟨n15, l15, h⟩ := v_is h (by decide +kernel : pins 178 105 = some (6, 107, 5, 0, []))
    have h : prun n15 178 107 [(5, .int w104), (4, .int w12), (3, .int w5), (0, .ref t), (1, .int hh), (2, .int r)] [] σ = some x := h
    obtain ⟨n16, w107, l16, ⟨e107, i107⟩, h⟩ := u_ic h (by decide +kernel : pins 178 107 = some (0, 109, 24, 0, [])) (by decide)
    obtain ⟨n17, l17, h⟩ := v_il h (by decide +kernel : pins 178 109 = some (3, 110, 1, 0, [])) (v := hh) rfl
    obtain ⟨n18, w110, l18, e110, h⟩ := u_mul h (by decide +kernel : pins 178 110 = some (10, 111, 2, 0, []))
    obtain ⟨n19, l19, h⟩ := v_is h (by decide +kernel : pins 178 111 = some (6, 113, 6, 0, []))
    have h : prun n19 178 113 [(6, .int w110), (5, .int w104), (4, .int w12), (3, .int w5), (0, .ref t), (1, .int hh), (2, .int r)] [] σ = some x := h
    have h := prun_lv h (lv' := [(7, .int 0), (6, .int w110), (5, .int w104), (4, .int w12), (3, .int w5), (0, .ref t), (1, .int hh), (2, .int r)]) (lvLe.cons (lvLe.cons (lvLe.cons (lvLe.cons (lvLe.cons (lvLe.cons (lvLe.cons lvLe.nil rfl) rfl) rfl) rfl) rfl) rfl) rfl) (by decide : ([6, 5, 4, 3, 0, 1, 2] : List Nat).Nodup) (by decide : ([7, 6, 5, 4, 3, 0, 1, 2] : List Nat).Nodup)
    have hn : (hh.toNatClampNeg : Int) = hh.toInt := n_clamp hh0.1
    have hrn : (r.toNatClampNeg : Int) = r.toInt := n_clamp hr0.1
    have q110 : w110.toInt = 24 * hh.toInt := by rw [e110, n_mul (by rw [i107]; omega) (by rw [i107]; omega), i107]
    have e32 : gI (vw t A σ) 32 hh.toNatClampNeg = gI (vw t A σ) 32 hh.toNatClampNeg := rfl
    have H : Hst (vw t A σ) (vw t A σ) hh.toNatClampNeg := Or.inl rfl
    have hE2 : 0 ≤ (gI (vw t A σ) 32 hh.toNatClampNeg).toInt ∧ (gI (vw t A σ) 32 hh.toNatClampNeg).toInt ≤ 24 := by rw [e32]; exact hE
    obtain ⟨m, js2, c2, th2, y1, h⟩ := pc_rec_a hh0 _ _ _ _ _ x W ⟨by omega, Or.inl i104⟩ h hE2
    obtain ⟨x1, x2, x3⟩ := pc_rec_c W h hh0 hE2 y1
    rw [e12] at x3
    exact ⟨x1, (SP.rf W).tr x2, vw t A σ, H, x3⟩
  · obtain ⟨n20, l20, h⟩ := v_il h (by decide +kernel : pins 178 20 = some (3, 22, 4, 0, [])) (v := w12) rfl
    obtain ⟨n21, l21, ⟨c22, h⟩ | ⟨c22, h⟩⟩ := u_if5 h (by decide +kernel : pins 178 22 = some (16, 25, 5, ((104 : Nat) : Int), []))
    · obtain ⟨n22, w104, l22, ⟨e104, i104⟩, h⟩ := u_ic h (by decide +kernel : pins 178 104 = some (0, 105, (-1), 0, [])) (by decide)
      obtain ⟨n23, l23, h⟩ := v_is h (by decide +kernel : pins 178 105 = some (6, 107, 5, 0, []))
      have h : prun n23 178 107 [(5, .int w104), (4, .int w12), (3, .int w5), (0, .ref t), (1, .int hh), (2, .int r)] [] σ = some x := h
      obtain ⟨n24, w107, l24, ⟨e107, i107⟩, h⟩ := u_ic h (by decide +kernel : pins 178 107 = some (0, 109, 24, 0, [])) (by decide)
      obtain ⟨n25, l25, h⟩ := v_il h (by decide +kernel : pins 178 109 = some (3, 110, 1, 0, [])) (v := hh) rfl
      obtain ⟨n26, w110, l26, e110, h⟩ := u_mul h (by decide +kernel : pins 178 110 = some (10, 111, 2, 0, []))
      obtain ⟨n27, l27, h⟩ := v_is h (by decide +kernel : pins 178 111 = some (6, 113, 6, 0, []))
      have h : prun n27 178 113 [(6, .int w110), (5, .int w104), (4, .int w12), (3, .int w5), (0, .ref t), (1, .int hh), (2, .int r)] [] σ = some x := h
      have h := prun_lv h (lv' := [(7, .int 0), (6, .int w110), (5, .int w104), (4, .int w12), (3, .int w5), (0, .ref t), (1, .int hh), (2, .int r)]) (lvLe.cons (lvLe.cons (lvLe.cons (lvLe.cons (lvLe.cons (lvLe.cons (lvLe.cons lvLe.nil rfl) rfl) rfl) rfl) rfl) rfl) rfl) (by decide : ([6, 5, 4, 3, 0, 1, 2] : List Nat).Nodup) (by decide : ([7, 6, 5, 4, 3, 0, 1, 2] : List Nat).Nodup)
      have hn : (hh.toNatClampNeg : Int) = hh.toInt := n_clamp hh0.1
      have hrn : (r.toNatClampNeg : Int) = r.toInt := n_clamp hr0.1
      have q110 : w110.toInt = 24 * hh.toInt := by rw [e110, n_mul (by rw [i107]; omega) (by rw [i107]; omega), i107]
      have e32 : gI (vw t A σ) 32 hh.toNatClampNeg = gI (vw t A σ) 32 hh.toNatClampNeg := rfl
      have H : Hst (vw t A σ) (vw t A σ) hh.toNatClampNeg := Or.inl rfl
      have hE2 : 0 ≤ (gI (vw t A σ) 32 hh.toNatClampNeg).toInt ∧ (gI (vw t A σ) 32 hh.toNatClampNeg).toInt ≤ 24 := by rw [e32]; exact hE
      obtain ⟨m, js2, c2, th2, y1, h⟩ := pc_rec_a hh0 _ _ _ _ _ x W ⟨by omega, Or.inl i104⟩ h hE2
      obtain ⟨x1, x2, x3⟩ := pc_rec_c W h hh0 hE2 y1
      rw [e12] at x3
      exact ⟨x1, (SP.rf W).tr x2, vw t A σ, H, x3⟩
    · obtain ⟨n28, l28, h⟩ := v_al h (by decide +kernel : pins 178 25 = some (5, 26, 0, 0, [])) (v := t) rfl
      obtain ⟨n29, l29, h⟩ := w_row (k := 16) W h (by decide +kernel : pins 178 26 = some (22, 29, 13, 16, [])) (by decide)
      obtain ⟨n30, l30, h⟩ := v_il h (by decide +kernel : pins 178 29 = some (3, 30, 1, 0, [])) (v := hh) rfl
      obtain ⟨n31, w30, l31, b30, e30, h⟩ := w_iald W h (by decide +kernel : pins 178 30 = some (24, 31, 0, 0, [])) (by decide)
      obtain ⟨n32, w31, l32, ⟨e31, i31⟩, h⟩ := u_ic h (by decide +kernel : pins 178 31 = some (0, 32, 1, 0, [])) (by decide)
      obtain ⟨n33, l33, ⟨c32, h⟩ | ⟨c32, h⟩⟩ := u_ic5 h (by decide +kernel : pins 178 32 = some (17, 35, 5, ((104 : Nat) : Int), []))
      · obtain ⟨n34, w104, l34, ⟨e104, i104⟩, h⟩ := u_ic h (by decide +kernel : pins 178 104 = some (0, 105, (-1), 0, [])) (by decide)
        obtain ⟨n35, l35, h⟩ := v_is h (by decide +kernel : pins 178 105 = some (6, 107, 5, 0, []))
        have h : prun n35 178 107 [(5, .int w104), (4, .int w12), (3, .int w5), (0, .ref t), (1, .int hh), (2, .int r)] [] σ = some x := h
        obtain ⟨n36, w107, l36, ⟨e107, i107⟩, h⟩ := u_ic h (by decide +kernel : pins 178 107 = some (0, 109, 24, 0, [])) (by decide)
        obtain ⟨n37, l37, h⟩ := v_il h (by decide +kernel : pins 178 109 = some (3, 110, 1, 0, [])) (v := hh) rfl
        obtain ⟨n38, w110, l38, e110, h⟩ := u_mul h (by decide +kernel : pins 178 110 = some (10, 111, 2, 0, []))
        obtain ⟨n39, l39, h⟩ := v_is h (by decide +kernel : pins 178 111 = some (6, 113, 6, 0, []))
        have h : prun n39 178 113 [(6, .int w110), (5, .int w104), (4, .int w12), (3, .int w5), (0, .ref t), (1, .int hh), (2, .int r)] [] σ = some x := h
        have h := prun_lv h (lv' := [(7, .int 0), (6, .int w110), (5, .int w104), (4, .int w12), (3, .int w5), (0, .ref t), (1, .int hh), (2, .int r)]) (lvLe.cons (lvLe.cons (lvLe.cons (lvLe.cons (lvLe.cons (lvLe.cons (lvLe.cons lvLe.nil rfl) rfl) rfl) rfl) rfl) rfl) rfl) (by decide : ([6, 5, 4, 3, 0, 1, 2] : List Nat).Nodup) (by decide : ([7, 6, 5, 4, 3, 0, 1, 2] : List Nat).Nodup)
        have hn : (hh.toNatClampNeg : Int) = hh.toInt := n_clamp hh0.1
        have hrn : (r.toNatClampNeg : Int) = r.toInt := n_clamp hr0.1
        have q110 : w110.toInt = 24 * hh.toInt := by rw [e110, n_mul (by rw [i107]; omega) (by rw [i107]; omega), i107]
        have e32 : gI (vw t A σ) 32 hh.toNatClampNeg = gI (vw t A σ) 32 hh.toNatClampNeg := rfl
        have H : Hst (vw t A σ) (vw t A σ) hh.toNatClampNeg := Or.inl rfl
        have hE2 : 0 ≤ (gI (vw t A σ) 32 hh.toNatClampNeg).toInt ∧ (gI (vw t A σ) 32 hh.toNatClampNeg).toInt ≤ 24 := by rw [e32]; exact hE
        obtain ⟨m, js2, c2, th2, y1, h⟩ := pc_rec_a hh0 _ _ _ _ _ x W ⟨by omega, Or.inl i104⟩ h hE2
        obtain ⟨x1, x2, x3⟩ := pc_rec_c W h hh0 hE2 y1
        rw [e12] at x3
        exact ⟨x1, (SP.rf W).tr x2, vw t A σ, H, x3⟩
      · obtain ⟨n40, l40, h⟩ := v_al h (by decide +kernel : pins 178 35 = some (5, 36, 0, 0, [])) (v := t) rfl
        obtain ⟨n41, l41, h⟩ := w_row (k := 67) W h (by decide +kernel : pins 178 36 = some (22, 39, 13, 67, [])) (by decide)
        obtain ⟨n42, l42, h⟩ := v_il h (by decide +kernel : pins 178 39 = some (3, 40, 2, 0, [])) (v := r) rfl
        obtain ⟨n43, w40, l43, b40, e40, h⟩ := w_iald W h (by decide +kernel : pins 178 40 = some (24, 41, 0, 0, [])) (by decide)
        obtain ⟨n44, l44, h⟩ := v_al h (by decide +kernel : pins 178 41 = some (5, 42, 0, 0, [])) (v := t) rfl
        obtain ⟨n45, l45, h⟩ := v_il h (by decide +kernel : pins 178 42 = some (3, 43, 1, 0, [])) (v := hh) rfl
        obtain ⟨n46, r43, s43, l46, h43, h⟩ := pinv_call h (by decide +kernel : pins 178 43 = some (36, 46, 148, 0, [2]))
        have h43 : prun n46 148 0 (lv_args 0 [.ref t, .int hh]) [] σ = some (r43, s43) := h43
        obtain ⟨es43, w43, er43, f43⟩ := pc_address W h43
        have er43 : r43 = some (.int w43) := er43
        have et43 : s43 = σ := es43
        rw [et43] at h
        subst er43
        have h : prun n46 178 46 [(4, .int w12), (3, .int w5), (0, .ref t), (1, .int hh), (2, .int r)] [.int w43, .int w40] σ = some x := h
        obtain ⟨n47, l47, ⟨c46, h⟩ | ⟨c46, h⟩⟩ := u_ic0 h (by decide +kernel : pins 178 46 = some (17, 49, 0, ((104 : Nat) : Int), []))
        · obtain ⟨n48, w104, l48, ⟨e104, i104⟩, h⟩ := u_ic h (by decide +kernel : pins 178 104 = some (0, 105, (-1), 0, [])) (by decide)
          obtain ⟨n49, l49, h⟩ := v_is h (by decide +kernel : pins 178 105 = some (6, 107, 5, 0, []))
          have h : prun n49 178 107 [(5, .int w104), (4, .int w12), (3, .int w5), (0, .ref t), (1, .int hh), (2, .int r)] [] σ = some x := h
          obtain ⟨n50, w107, l50, ⟨e107, i107⟩, h⟩ := u_ic h (by decide +kernel : pins 178 107 = some (0, 109, 24, 0, [])) (by decide)
          obtain ⟨n51, l51, h⟩ := v_il h (by decide +kernel : pins 178 109 = some (3, 110, 1, 0, [])) (v := hh) rfl
          obtain ⟨n52, w110, l52, e110, h⟩ := u_mul h (by decide +kernel : pins 178 110 = some (10, 111, 2, 0, []))
          obtain ⟨n53, l53, h⟩ := v_is h (by decide +kernel : pins 178 111 = some (6, 113, 6, 0, []))
          have h : prun n53 178 113 [(6, .int w110), (5, .int w104), (4, .int w12), (3, .int w5), (0, .ref t), (1, .int hh), (2, .int r)] [] σ = some x := h
          have h := prun_lv h (lv' := [(7, .int 0), (6, .int w110), (5, .int w104), (4, .int w12), (3, .int w5), (0, .ref t), (1, .int hh), (2, .int r)]) (lvLe.cons (lvLe.cons (lvLe.cons (lvLe.cons (lvLe.cons (lvLe.cons (lvLe.cons lvLe.nil rfl) rfl) rfl) rfl) rfl) rfl) rfl) (by decide : ([6, 5, 4, 3, 0, 1, 2] : List Nat).Nodup) (by decide : ([7, 6, 5, 4, 3, 0, 1, 2] : List Nat).Nodup)
          have hn : (hh.toNatClampNeg : Int) = hh.toInt := n_clamp hh0.1
          have hrn : (r.toNatClampNeg : Int) = r.toInt := n_clamp hr0.1
          have q110 : w110.toInt = 24 * hh.toInt := by rw [e110, n_mul (by rw [i107]; omega) (by rw [i107]; omega), i107]
          have e32 : gI (vw t A σ) 32 hh.toNatClampNeg = gI (vw t A σ) 32 hh.toNatClampNeg := rfl
          have H : Hst (vw t A σ) (vw t A σ) hh.toNatClampNeg := Or.inl rfl
          have hE2 : 0 ≤ (gI (vw t A σ) 32 hh.toNatClampNeg).toInt ∧ (gI (vw t A σ) 32 hh.toNatClampNeg).toInt ≤ 24 := by rw [e32]; exact hE
          obtain ⟨m, js2, c2, th2, y1, h⟩ := pc_rec_a hh0 _ _ _ _ _ x W ⟨by omega, Or.inl i104⟩ h hE2
          obtain ⟨x1, x2, x3⟩ := pc_rec_c W h hh0 hE2 y1
          rw [e12] at x3
          exact ⟨x1, (SP.rf W).tr x2, vw t A σ, H, x3⟩
        · obtain ⟨n54, l54, h⟩ := v_al h (by decide +kernel : pins 178 49 = some (5, 50, 0, 0, [])) (v := t) rfl
          obtain ⟨n55, l55, h⟩ := w_row (k := 62) W h (by decide +kernel : pins 178 50 = some (22, 53, 13, 62, [])) (by decide)
          obtain ⟨n56, w53, l56, ⟨e53, i53⟩, h⟩ := u_ic h (by decide +kernel : pins 178 53 = some (0, 55, 16, 0, [])) (by decide)
          obtain ⟨n57, l57, h⟩ := v_il h (by decide +kernel : pins 178 55 = some (3, 56, 2, 0, [])) (v := r) rfl
          obtain ⟨n58, w56, l58, e56, h⟩ := u_mul h (by decide +kernel : pins 178 56 = some (10, 57, 2, 0, []))
          obtain ⟨n59, l59, h⟩ := v_al h (by decide +kernel : pins 178 57 = some (5, 58, 0, 0, [])) (v := t) rfl
          obtain ⟨n60, l60, h⟩ := w_row (k := 21) W h (by decide +kernel : pins 178 58 = some (22, 61, 13, 21, [])) (by decide)
          obtain ⟨n61, w61, l61, ⟨e61, i61⟩, h⟩ := u_ic h (by decide +kernel : pins 178 61 = some (0, 63, 16, 0, [])) (by decide)
          obtain ⟨n62, l62, h⟩ := v_il h (by decide +kernel : pins 178 63 = some (3, 64, 1, 0, [])) (v := hh) rfl
          obtain ⟨n63, w64, l63, e64, h⟩ := u_mul h (by decide +kernel : pins 178 64 = some (10, 65, 2, 0, []))
          obtain ⟨n64, r65, s65, l64, h65, h⟩ := pinv_call h (by decide +kernel : pins 178 65 = some (36, 68, 140, 1, [4]))
          have h65 : prun n64 140 0 (lv_args 0 [.ref (A 62), .int w56, .ref (A 21), .int w64]) [] σ = some (r65, s65) := h65
          have q56 : w56.toInt = 16 * r.toInt := by rw [e56, n_mul (by rw [i53]; omega) (by rw [i53]; omega), i53]
          have q64 : w64.toInt = 16 * hh.toInt := by rw [e64, n_mul (by rw [i61]; omega) (by rw [i61]; omega), i61]
          obtain ⟨es65, w65, er65, y65⟩ := pc_alike W h65 (by decide) (by decide) ⟨by omega, by omega⟩ ⟨by omega, by omega⟩
          have er65 : r65 = some (.int w65) := er65
          have et65 : s65 = σ := es65
          rw [et65] at h
          subst er65
          have h : prun n64 178 68 [(4, .int w12), (3, .int w5), (0, .ref t), (1, .int hh), (2, .int r)] [.int w65] σ = some x := h
          obtain ⟨n65, l65, ⟨c68, h⟩ | ⟨c68, h⟩⟩ := u_if0 h (by decide +kernel : pins 178 68 = some (16, 71, 0, ((104 : Nat) : Int), []))
          · obtain ⟨n66, w104, l66, ⟨e104, i104⟩, h⟩ := u_ic h (by decide +kernel : pins 178 104 = some (0, 105, (-1), 0, [])) (by decide)
            obtain ⟨n67, l67, h⟩ := v_is h (by decide +kernel : pins 178 105 = some (6, 107, 5, 0, []))
            have h : prun n67 178 107 [(5, .int w104), (4, .int w12), (3, .int w5), (0, .ref t), (1, .int hh), (2, .int r)] [] σ = some x := h
            obtain ⟨n68, w107, l68, ⟨e107, i107⟩, h⟩ := u_ic h (by decide +kernel : pins 178 107 = some (0, 109, 24, 0, [])) (by decide)
            obtain ⟨n69, l69, h⟩ := v_il h (by decide +kernel : pins 178 109 = some (3, 110, 1, 0, [])) (v := hh) rfl
            obtain ⟨n70, w110, l70, e110, h⟩ := u_mul h (by decide +kernel : pins 178 110 = some (10, 111, 2, 0, []))
            obtain ⟨n71, l71, h⟩ := v_is h (by decide +kernel : pins 178 111 = some (6, 113, 6, 0, []))
            have h : prun n71 178 113 [(6, .int w110), (5, .int w104), (4, .int w12), (3, .int w5), (0, .ref t), (1, .int hh), (2, .int r)] [] σ = some x := h
            have h := prun_lv h (lv' := [(7, .int 0), (6, .int w110), (5, .int w104), (4, .int w12), (3, .int w5), (0, .ref t), (1, .int hh), (2, .int r)]) (lvLe.cons (lvLe.cons (lvLe.cons (lvLe.cons (lvLe.cons (lvLe.cons (lvLe.cons lvLe.nil rfl) rfl) rfl) rfl) rfl) rfl) rfl) (by decide : ([6, 5, 4, 3, 0, 1, 2] : List Nat).Nodup) (by decide : ([7, 6, 5, 4, 3, 0, 1, 2] : List Nat).Nodup)
            have hn : (hh.toNatClampNeg : Int) = hh.toInt := n_clamp hh0.1
            have hrn : (r.toNatClampNeg : Int) = r.toInt := n_clamp hr0.1
            have q110 : w110.toInt = 24 * hh.toInt := by rw [e110, n_mul (by rw [i107]; omega) (by rw [i107]; omega), i107]
            have e32 : gI (vw t A σ) 32 hh.toNatClampNeg = gI (vw t A σ) 32 hh.toNatClampNeg := rfl
            have H : Hst (vw t A σ) (vw t A σ) hh.toNatClampNeg := Or.inl rfl
            have hE2 : 0 ≤ (gI (vw t A σ) 32 hh.toNatClampNeg).toInt ∧ (gI (vw t A σ) 32 hh.toNatClampNeg).toInt ≤ 24 := by rw [e32]; exact hE
            obtain ⟨m, js2, c2, th2, y1, h⟩ := pc_rec_a hh0 _ _ _ _ _ x W ⟨by omega, Or.inl i104⟩ h hE2
            obtain ⟨x1, x2, x3⟩ := pc_rec_c W h hh0 hE2 y1
            rw [e12] at x3
            exact ⟨x1, (SP.rf W).tr x2, vw t A σ, H, x3⟩
          · obtain ⟨n72, l72, h⟩ := v_al h (by decide +kernel : pins 178 71 = some (5, 72, 0, 0, [])) (v := t) rfl
            obtain ⟨n73, l73, h⟩ := w_row (k := 16) W h (by decide +kernel : pins 178 72 = some (22, 75, 13, 16, [])) (by decide)
            obtain ⟨n74, l74, h⟩ := v_il h (by decide +kernel : pins 178 75 = some (3, 76, 1, 0, [])) (v := hh) rfl
            obtain ⟨n75, w76, l75, b76, e76, h⟩ := w_iald W h (by decide +kernel : pins 178 76 = some (24, 77, 0, 0, [])) (by decide)
            obtain ⟨n76, w77, l76, ⟨e77, i77⟩, h⟩ := u_ic h (by decide +kernel : pins 178 77 = some (0, 78, 2, 0, [])) (by decide)
            obtain ⟨n77, l77, ⟨c78, h⟩ | ⟨c78, h⟩⟩ := u_ic1 h (by decide +kernel : pins 178 78 = some (17, 81, 1, ((89 : Nat) : Int), []))
            · obtain ⟨n78, l78, h⟩ := v_al h (by decide +kernel : pins 178 89 = some (5, 90, 0, 0, [])) (v := t) rfl
              obtain ⟨n79, l79, h⟩ := w_row (k := 8) W h (by decide +kernel : pins 178 90 = some (22, 93, 13, 8, [])) (by decide)
              obtain ⟨n80, l80, h⟩ := v_il h (by decide +kernel : pins 178 93 = some (3, 94, 1, 0, [])) (v := hh) rfl
              obtain ⟨n81, l81, h⟩ := v_dup2 h (by decide +kernel : pins 178 94 = some (35, 95, 0, 0, []))
              obtain ⟨n82, w95, l82, b95, e95, h⟩ := w_iald W h (by decide +kernel : pins 178 95 = some (24, 96, 0, 0, [])) (by decide)
              obtain ⟨n83, w96, l83, ⟨e96, i96⟩, h⟩ := u_ic h (by decide +kernel : pins 178 96 = some (0, 97, 1, 0, [])) (by decide)
              obtain ⟨n84, w97, l84, e97, h⟩ := u_add h (by decide +kernel : pins 178 97 = some (10, 98, 0, 0, []))
              obtain ⟨n85, s98, l85, b98, S98, u98, h⟩ := w_iast W h (by decide +kernel : pins 178 98 = some (28, 99, 0, 0, [])) (by decide)
              obtain ⟨n86, l86, h⟩ := v_al h (by decide +kernel : pins 178 99 = some (5, 100, 0, 0, [])) (v := t) rfl
              obtain ⟨n87, l87, h⟩ := v_il h (by decide +kernel : pins 178 100 = some (3, 101, 1, 0, [])) (v := hh) rfl
              obtain ⟨n88, r101, s101, l88, h101, h⟩ := pinv_call h (by decide +kernel : pins 178 101 = some (36, 104, 156, 0, [2]))
              have h101 : prun n88 156 0 (lv_args 0 [.ref t, .int hh]) [] s98 = some (r101, s101) := h101
              obtain ⟨er101, S101, f101, a101, b101⟩ := pc_probesName S98.1 h101
              have er101 : r101 = none := er101
              subst er101
              try dsimp only at S101
              try dsimp only at f101
              try dsimp only at a101
              try dsimp only at b101
              have h : prun n88 178 104 [(4, .int w12), (3, .int w5), (0, .ref t), (1, .int hh), (2, .int r)] [] s101 = some x := h
              obtain ⟨n89, w104, l89, ⟨e104, i104⟩, h⟩ := u_ic h (by decide +kernel : pins 178 104 = some (0, 105, (-1), 0, [])) (by decide)
              obtain ⟨n90, l90, h⟩ := v_is h (by decide +kernel : pins 178 105 = some (6, 107, 5, 0, []))
              have h : prun n90 178 107 [(5, .int w104), (4, .int w12), (3, .int w5), (0, .ref t), (1, .int hh), (2, .int r)] [] s101 = some x := h
              obtain ⟨n91, w107, l91, ⟨e107, i107⟩, h⟩ := u_ic h (by decide +kernel : pins 178 107 = some (0, 109, 24, 0, [])) (by decide)
              obtain ⟨n92, l92, h⟩ := v_il h (by decide +kernel : pins 178 109 = some (3, 110, 1, 0, [])) (v := hh) rfl
              obtain ⟨n93, w110, l93, e110, h⟩ := u_mul h (by decide +kernel : pins 178 110 = some (10, 111, 2, 0, []))
              obtain ⟨n94, l94, h⟩ := v_is h (by decide +kernel : pins 178 111 = some (6, 113, 6, 0, []))
              have h : prun n94 178 113 [(6, .int w110), (5, .int w104), (4, .int w12), (3, .int w5), (0, .ref t), (1, .int hh), (2, .int r)] [] s101 = some x := h
              have h := prun_lv h (lv' := [(7, .int 0), (6, .int w110), (5, .int w104), (4, .int w12), (3, .int w5), (0, .ref t), (1, .int hh), (2, .int r)]) (lvLe.cons (lvLe.cons (lvLe.cons (lvLe.cons (lvLe.cons (lvLe.cons (lvLe.cons lvLe.nil rfl) rfl) rfl) rfl) rfl) rfl) rfl) (by decide : ([6, 5, 4, 3, 0, 1, 2] : List Nat).Nodup) (by decide : ([7, 6, 5, 4, 3, 0, 1, 2] : List Nat).Nodup)
              have hn : (hh.toNatClampNeg : Int) = hh.toInt := n_clamp hh0.1
              have hrn : (r.toNatClampNeg : Int) = r.toInt := n_clamp hr0.1
              have q110 : w110.toInt = 24 * hh.toInt := by rw [e110, n_mul (by rw [i107]; omega) (by rw [i107]; omega), i107]
              have hp : ∀ j q : Nat, ¬ ((j = 8 ∨ j = 16 ∨ j = 17 ∨ j = 18) ∧ q = hh.toNatClampNeg) → vw t A s101 j q = vw t A σ j q := by
                intro j q hj
                rw [f101 j q (fun e => hj ⟨by omega, e.2⟩), u98]
                by_cases e : j = 8
                · subst e; exact up_ni (by decide) (fun e => hj ⟨by omega, e⟩)
                · exact up_ne e
              have e32 : gI (vw t A s101) 32 hh.toNatClampNeg = gI (vw t A σ) 32 hh.toNatClampNeg := by unfold gI; rw [hp 32 _ (by omega)]
              have H : Hst (vw t A σ) (vw t A s101) hh.toNatClampNeg := by
                refine Or.inr (Or.inr ⟨?_, hp, a101, b101⟩)
                have : w30.toInt = (gI (vw t A σ) 16 hh.toNatClampNeg).toInt := by rw [e30]
                have : w76.toInt = (gI (vw t A σ) 16 hh.toNatClampNeg).toInt := by rw [e76]
                omega
              have hE2 : 0 ≤ (gI (vw t A s101) 32 hh.toNatClampNeg).toInt ∧ (gI (vw t A s101) 32 hh.toNatClampNeg).toInt ≤ 24 := by rw [e32]; exact hE
              obtain ⟨m, js2, c2, th2, y1, h⟩ := pc_rec_a hh0 _ _ _ _ _ x S101.1 ⟨by omega, Or.inl i104⟩ h hE2
              obtain ⟨x1, x2, x3⟩ := pc_rec_c S101.1 h hh0 hE2 y1
              rw [e12] at x3
              exact ⟨x1, (S98.tr S101).tr x2, vw t A s101, H, x3⟩
            · obtain ⟨n95, l95, h⟩ := v_al h (by decide +kernel : pins 178 81 = some (5, 82, 0, 0, [])) (v := t) rfl
              obtain ⟨n96, l96, h⟩ := v_il h (by decide +kernel : pins 178 82 = some (3, 83, 1, 0, [])) (v := hh) rfl
              obtain ⟨n97, r83, s83, l97, h83, h⟩ := pinv_call h (by decide +kernel : pins 178 83 = some (36, 86, 157, 0, [2]))
              have h83 : prun n97 157 0 (lv_args 0 [.ref t, .int hh]) [] σ = some (r83, s83) := h83
              obtain ⟨er83, S83, N83⟩ := pc_renames W h83 hh0 hw
              have er83 : r83 = none := er83
              subst er83
              try dsimp only at S83
              try dsimp only at N83
              have h : prun n97 178 86 [(4, .int w12), (3, .int w5), (0, .ref t), (1, .int hh), (2, .int r)] [] s83 = some x := h
              obtain ⟨n98, l98, h⟩ := u_go h (by decide +kernel : pins 178 86 = some (20, 89, 0, ((104 : Nat) : Int), []))
              obtain ⟨n99, w104, l99, ⟨e104, i104⟩, h⟩ := u_ic h (by decide +kernel : pins 178 104 = some (0, 105, (-1), 0, [])) (by decide)
              obtain ⟨n100, l100, h⟩ := v_is h (by decide +kernel : pins 178 105 = some (6, 107, 5, 0, []))
              have h : prun n100 178 107 [(5, .int w104), (4, .int w12), (3, .int w5), (0, .ref t), (1, .int hh), (2, .int r)] [] s83 = some x := h
              obtain ⟨n101, w107, l101, ⟨e107, i107⟩, h⟩ := u_ic h (by decide +kernel : pins 178 107 = some (0, 109, 24, 0, [])) (by decide)
              obtain ⟨n102, l102, h⟩ := v_il h (by decide +kernel : pins 178 109 = some (3, 110, 1, 0, [])) (v := hh) rfl
              obtain ⟨n103, w110, l103, e110, h⟩ := u_mul h (by decide +kernel : pins 178 110 = some (10, 111, 2, 0, []))
              obtain ⟨n104, l104, h⟩ := v_is h (by decide +kernel : pins 178 111 = some (6, 113, 6, 0, []))
              have h : prun n104 178 113 [(6, .int w110), (5, .int w104), (4, .int w12), (3, .int w5), (0, .ref t), (1, .int hh), (2, .int r)] [] s83 = some x := h
              have h := prun_lv h (lv' := [(7, .int 0), (6, .int w110), (5, .int w104), (4, .int w12), (3, .int w5), (0, .ref t), (1, .int hh), (2, .int r)]) (lvLe.cons (lvLe.cons (lvLe.cons (lvLe.cons (lvLe.cons (lvLe.cons (lvLe.cons lvLe.nil rfl) rfl) rfl) rfl) rfl) rfl) rfl) (by decide : ([6, 5, 4, 3, 0, 1, 2] : List Nat).Nodup) (by decide : ([7, 6, 5, 4, 3, 0, 1, 2] : List Nat).Nodup)
              have hn : (hh.toNatClampNeg : Int) = hh.toInt := n_clamp hh0.1
              have hrn : (r.toNatClampNeg : Int) = r.toInt := n_clamp hr0.1
              have q110 : w110.toInt = 24 * hh.toInt := by rw [e110, n_mul (by rw [i107]; omega) (by rw [i107]; omega), i107]
              have R : Ren (vw t A σ) (vw t A s83) hh.toNatClampNeg := N83
              have e32 : gI (vw t A s83) 32 hh.toNatClampNeg = gI (vw t A σ) 32 hh.toNatClampNeg := by unfold gI; rw [R.1 32 _ (by omega) (by omega)]
              have H : Hst (vw t A σ) (vw t A s83) hh.toNatClampNeg := by
                refine Or.inr (Or.inl ⟨?_, R⟩)
                rintro ⟨d, d1, d2, d3⟩
                obtain ⟨z1, z2⟩ := y65 c68
                have n56 : w56.toNatClampNeg = 16 * r.toNatClampNeg := by rw [clampc q56 (by omega)]; omega
                have n64 : w64.toNatClampNeg = 16 * hh.toNatClampNeg := by rw [clampc q64 (by omega)]; omega
                rw [n56, n64] at z1 z2
                rw [← z1] at d2
                exact hG.2 d d1 d2 ((z2 d d1 d2).mpr d3)
              have hE2 : 0 ≤ (gI (vw t A s83) 32 hh.toNatClampNeg).toInt ∧ (gI (vw t A s83) 32 hh.toNatClampNeg).toInt ≤ 24 := by rw [e32]; exact hE
              obtain ⟨m, js2, c2, th2, y1, h⟩ := pc_rec_a hh0 _ _ _ _ _ x S83.1 ⟨by omega, Or.inl i104⟩ h hE2
              obtain ⟨x1, x2, x3⟩ := pc_rec_c S83.1 h hh0 hE2 y1
              rw [e12] at x3
              exact ⟨x1, S83.tr x2, vw t A s83, H, x3⟩
