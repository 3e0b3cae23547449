theorem i32_suc (x : Int32) : (x.toInt < 2147483647 ∧ (x + 1).toInt = x.toInt + 1) ∨ (x.toInt = 2147483647 ∧ (x + 1).toInt = -2147483648) := by
  have r := n_rng x
  by_cases e : x.toInt = 2147483647
  · refine Or.inr ⟨e, ?_⟩
    have : x = Int32.ofInt 2147483647 := Int32.toInt_inj.mp (by rw [e]; decide)
    rw [this]; decide
  · refine Or.inl ⟨by omega, ?_⟩
    rw [n_add (by show _ ≤ x.toInt + 1; omega) (by show x.toInt + 1 ≤ _; omega)]; rfl
theorem tmod_neg {x : Int} (h : x ≤ 0) : x.tmod 65024 = -((-x) % 65024) := by
  have e := Int.neg_tmod (-x) 65024
  rw [Int.neg_neg] at e
  rw [e, Int.tmod_eq_emod_of_nonneg (by omega)]
theorem Mw_mov {i : Int} {x : Int32} (hi : 0 ≤ i ∧ i ≤ 65535) (ha : 0 ≤ (257 * i + 4093 * x.toInt).tmod 65024) : Mw i (x + 1).toInt + 1 ≤ Mw i x.toInt := by
  have r := n_rng x
  rcases i32_suc x with ⟨e1, e2⟩ | ⟨e1, e2⟩
  · rw [e2]
    unfold Mw
    by_cases t : -5000 ≤ x.toInt
    · rw [if_pos t, if_pos (by omega)]; omega
    · rw [if_neg t]
      have z := tmod_neg (x := 257 * i + 4093 * x.toInt) (by omega)
      have e0 : (257 * i + 4093 * x.toInt).tmod 65024 = 0 := by omega
      rw [if_pos e0]
      by_cases t1 : x.toInt = -5001
      · rw [if_pos t1, t1, if_pos (by decide)]; decide
      · rw [if_neg t1, if_neg (by omega)]
        have z1 := tmod_neg (x := 257 * i + 4093 * (x.toInt + 1)) (by omega)
        rw [if_neg (by omega)]
        decide
  · rw [e2, e1]
    unfold Mw
    rw [if_pos (by decide : (-5000 : Int) ≤ 2147483647), if_neg (by decide)]
    split
    · rw [if_neg (by decide)]; decide
    · decide
section
variable {V V' V1 : Nat → Nat → Value} {h : Nat}
theorem hD_le2 : hD V h ≤ 2 := by
  by_cases m : mayD V h
  · unfold hD; rw [if_pos m]; decide
  · unfold hD; rw [if_neg m]; decide
theorem hN_le (t : gL V' 0 0 = gL V 0 0) (e17 : gI V' 17 h = gI V 17 h) (e18 : gL V' 18 h = gL V 18 h ∨ (gL V 0 0).toInt < (gL V' 18 h).toInt) : hN V' h ≤ hN V h := by
  unfold hN
  rw [t, e17]
  rcases e18 with e | e
  · rw [e]; exact Nat.le_refl _
  · rw [if_neg (by omega)]; exact Nat.zero_le _
/-- rows below 42 are as before -/
theorem fr_out (ty : Ty1 V h) (f : ∀ j q, blk j q h → V' j q = V j q) (t : V' 0 0 = V 0 0) : hp V' h = hp V h ∧ hD V' h = hD V h := hp_eq ty t f
theorem FrS.low (f : FrS V V') {j q g : Nat} (b : blk j q g) : V' j q = V j q := f j q (by unfold blk at b; omega)
theorem FrS.out (f : FrS V V') : Out V V' h := ⟨f 0 0 (by decide), fun _ _ _ _ b => f.low b⟩
theorem mov_pot (ty : Ty1 V h) (TB : 0 ≤ (gL V 0 0).toInt ∧ (gL V 0 0).toInt ≤ 1000000000) (m : Mov V V' h) (ha : 0 ≤ adr V h) : Out V V' h ∧ hp V' h + 1 ≤ hp V h ∧ hD V' h = hD V h := by
  obtain ⟨f, m7, m16, m18⟩ := m
  obtain ⟨b1, b2, b3, b4⟩ := ty
  have t : V' 0 0 = V 0 0 := f 0 0 (by omega)
  have eD : hD V' h = hD V h := hD_eq t (f 15 h (by omega))
  refine ⟨⟨t, fun g j q ne b => f j q (by unfold blk at b; omega)⟩, ?_, eD⟩
  have eA : hA V' h ≤ 11 := by unfold hA; split <;> omega
  have eM : hM V' h + 12 ≤ hM V h := by
    unfold hM
    rw [gI_of (f 5 h (by omega)), m7]
    have := Mw_mov (x := gI V 7 h) b4 ha
    omega
  have eN : hN V' h ≤ hN V h := hN_le (gL_of t) (gI_of (f 17 h (by omega))) (by rcases m18 with e | e; exact Or.inl e; exact Or.inr (by omega))
  have eS : hS V' h = 0 := by unfold hS; rw [if_neg m16]
  have eB : hB V' h = hB V h := hB_eq b3 (f 19 h (by omega)) (fun q _ _ => f 21 q (by omega))
  have eQ : hQ V' h = hQ V h := hQ_eq t (fun q _ _ => f 26 q (by omega)) (fun q _ _ => f 27 q (by omega))
  have eR : hR V' h = hR V h := hR_eq b1.2 t (f 31 h (by omega)) (fun q _ _ => f 30 q (by omega))
  have eE : hE V' h = hE V h := hE_eq b2.2 t (f 32 h (by omega)) (fun j q _ _ _ _ => f j q (by omega))
  unfold hp
  omega
/-- defended now -/
theorem def_pot (ty : Ty1 V h) (TB : 0 ≤ (gL V 0 0).toInt ∧ (gL V 0 0).toInt ≤ 1000000000) (m : mayD V h) (e : V' = up V 15 h (.long (gL V 0 0))) : Out V V' h ∧ hp V' h + 2 = hp V h ∧ hD V' h + 2 = hD V h := by
  have f : ∀ j q, ¬ (j = 15 ∧ q = h) → V' j q = V j q := fun j q hj => by
    rw [e]
    by_cases e1 : j = 15
    · subst e1; exact up_ni (by decide) (fun e => hj ⟨rfl, e⟩)
    · exact up_ne e1
  obtain ⟨b1, b2, b3, b4⟩ := ty
  have t : V' 0 0 = V 0 0 := f 0 0 (by omega)
  have g15 : gL V' 15 h = gL V 0 0 := by rw [e, gL_eq]
  have nm : ¬ mayD V' h := by
    unfold mayD
    rw [g15, gL_of t, Int64.sub_self]
    have : (0 : Int64).toInt = 0 := rfl
    omega
  have eD : hD V' h + 2 = hD V h := by unfold hD; rw [if_neg nm, if_pos m]
  refine ⟨⟨t, fun g j q ne b => f j q (by unfold blk at b; omega)⟩, ?_, eD⟩
  have eA : hA V' h = hA V h := hA_eq t (f 14 h (by omega))
  have eM : hM V' h = hM V h := hM_eq (f 5 h (by omega)) (f 7 h (by omega))
  have eN : hN V' h = hN V h := hN_eq t (f 17 h (by omega)) (f 18 h (by omega))
  have eS : hS V' h = hS V h := hS_eq (f 16 h (by omega))
  have eB : hB V' h = hB V h := hB_eq b3 (f 19 h (by omega)) (fun q _ _ => f 21 q (by omega))
  have eQ : hQ V' h = hQ V h := hQ_eq t (fun q _ _ => f 26 q (by omega)) (fun q _ _ => f 27 q (by omega))
  have eR : hR V' h = hR V h := hR_eq b1.2 t (f 31 h (by omega)) (fun q _ _ => f 30 q (by omega))
  have eE : hE V' h = hE V h := hE_eq b2.2 t (f 32 h (by omega)) (fun j q _ _ _ _ => f j q (by omega))
  unfold hp
  omega
theorem lw_addc {x : Int64} {c : Int} (h1 : 0 ≤ x.toInt) (h2 : x.toInt ≤ 1000000000) (h3 : 0 ≤ c) (h4 : c ≤ 4000000000) : (x + Int64.ofInt c).toInt = x.toInt + c := by
  have e : (Int64.ofInt c).toInt = c := Int64.toInt_ofInt_of_le (by omega) (by omega)
  rw [lw_add (by rw [e]; omega) (by rw [e]; omega), e]
theorem np_pot (ty : Ty1 V h) (TB : 0 ≤ (gL V 0 0).toInt ∧ (gL V 0 0).toInt ≤ 1000000000) (e : V' = up (up V 17 h (.int 0)) 18 h (.long (gL V 0 0 + 1000))) : Out V V' h ∧ hp V' h ≤ hp V h ∧ hD V' h = hD V h := by
  have f : ∀ j q, ¬ ((j = 17 ∨ j = 18) ∧ q = h) → V' j q = V j q := fun j q hj => by
    rw [e]
    have z : up (up V 17 h (.int 0)) 18 h (.long (gL V 0 0 + 1000)) j q = up V 17 h (.int 0) j q := by
      by_cases e1 : j = 18
      · subst e1; exact up_ni (by decide) (fun e => hj ⟨Or.inr rfl, e⟩)
      · exact up_ne e1
    rw [z]
    by_cases e1 : j = 17
    · subst e1; exact up_ni (by decide) (fun e => hj ⟨Or.inl rfl, e⟩)
    · exact up_ne e1
  obtain ⟨b1, b2, b3, b4⟩ := ty
  have t : V' 0 0 = V 0 0 := f 0 0 (by omega)
  have g18 : gL V' 18 h = gL V 0 0 + Int64.ofInt 1000 := by rw [e, gL_eq]; rfl
  have eD : hD V' h = hD V h := hD_eq t (f 15 h (by omega))
  refine ⟨⟨t, fun g j q ne b => f j q (by unfold blk at b; omega)⟩, ?_, eD⟩
  have eA : hA V' h = hA V h := hA_eq t (f 14 h (by omega))
  have eM : hM V' h = hM V h := hM_eq (f 5 h (by omega)) (f 7 h (by omega))
  have eN : hN V' h = 0 := by
    unfold hN
    rw [g18, gL_of t, if_neg]
    rw [lw_addc TB.1 TB.2 (by decide) (by decide)]; omega
  have eS : hS V' h = hS V h := hS_eq (f 16 h (by omega))
  have eB : hB V' h = hB V h := hB_eq b3 (f 19 h (by omega)) (fun q _ _ => f 21 q (by omega))
  have eQ : hQ V' h = hQ V h := hQ_eq t (fun q _ _ => f 26 q (by omega)) (fun q _ _ => f 27 q (by omega))
  have eR : hR V' h = hR V h := hR_eq b1.2 t (f 31 h (by omega)) (fun q _ _ => f 30 q (by omega))
  have eE : hE V' h = hE V h := hE_eq b2.2 t (f 32 h (by omega)) (fun j q _ _ _ _ => f j q (by omega))
  unfold hp
  omega
theorem q_pot (ty : Ty1 V h) (TB : 0 ≤ (gL V 0 0).toInt ∧ (gL V 0 0).toInt ≤ 1000000000) (wt : ∀ q, 4 * h ≤ q → q < 4 * h + 4 → 0 ≤ (gI V 28 q).toInt) (Q : QAll V V' h (4 * h)) : Out V V' h ∧ hp V' h ≤ hp V h ∧ hD V' h = hD V h := by
  obtain ⟨f, f2, f3⟩ := Q
  obtain ⟨b1, b2, b3, b4⟩ := ty
  have t : V' 0 0 = V 0 0 := f 0 0 (by omega) (by omega)
  have eD : hD V' h = hD V h := hD_eq t (f 15 h (by omega) (by omega))
  refine ⟨⟨t, fun g j q ne b => ?_⟩, ?_, eD⟩
  · by_cases e : j = 27
    · subst e
      exact (f2 q (by unfold blk at b; omega)).1
    · exact f j q (by unfold blk at b; omega) (by unfold blk at b; omega)
  have eA : hA V' h = hA V h := hA_eq t (f 14 h (by omega) (by omega))
  have eM : hM V' h = hM V h := hM_eq (f 5 h (by omega) (by omega)) (f 7 h (by omega) (by omega))
  have eN : hN V' h = hN V h := hN_eq t (f 17 h (by omega) (by omega)) (f 18 h (by omega) (by omega))
  have eS : hS V' h = hS V h := hS_eq (f 16 h (by omega) (by omega))
  have eB : hB V' h = hB V h := hB_eq b3 (f 19 h (by omega) (by omega)) (fun q _ _ => f 21 q (by omega) (by omega))
  have eQ : hQ V' h ≤ hQ V h := by
    unfold hQ
    refine sm_le 4 fun i hi => ?_
    show qW V' _ ≤ qW V _
    generalize hq : 4 * h + i = q
    have w0 := wt q (by omega) (by omega)
    unfold qW
    rw [gL_of t, gI_of (f 26 q (by omega) (by omega))]
    rcases f3 q with ⟨e1, _⟩ | ⟨e1, e2, _⟩
    · rw [gL_of e1]; exact Nat.le_refl _
    · have g27 : gL V' 27 q = gL V 27 q + (gI V 28 q).toInt64 := by unfold gL; rw [e2]; rfl
      by_cases c : (gL V 27 q).toInt ≤ (gL V 0 0).toInt
      · by_cases s : 0 < (gI V 26 q).toInt
        · rw [if_pos (show 0 < (gI V 26 q).toInt ∧ (gL V 27 q).toInt ≤ (gL V 0 0).toInt from ⟨s, c⟩)]
          split <;> omega
        · rw [if_neg (fun z => s z.1), if_neg (fun z => s z.1)]; exact Nat.le_refl _
      · have r := lw_rng (gL V 27 q)
        have r2 := n_rng (gI V 28 q)
        rw [lw_sub (by omega) (by omega)] at e1
        rw [g27, lw_add (by rw [lw_i2l]; omega) (by rw [lw_i2l]; omega), lw_i2l, if_neg (fun z => by have := z.2; omega)]
        exact Nat.zero_le _
  have eR : hR V' h = hR V h := hR_eq b1.2 t (f 31 h (by omega) (by omega)) (fun q _ _ => f 30 q (by omega) (by omega))
  have eE : hE V' h = hE V h := hE_eq b2.2 t (f 32 h (by omega) (by omega)) (fun j q _ _ _ _ => f j q (by omega) (by omega))
  unfold hp
  omega
theorem rpl_pot (ty : Ty1 V h) (TB : 0 ≤ (gL V 0 0).toInt ∧ (gL V 0 0).toInt ≤ 1000000000) (R : Rpl V V' h) : Out V V' h ∧ hp V' h ≤ hp V h ∧ hD V' h = hD V h := by
  obtain ⟨f, m31, n4, y, y1, y2, y3, y4⟩ := R
  obtain ⟨b1, b2, b3, b4⟩ := ty
  have y3 := y3 b4.1
  have t : V' 0 0 = V 0 0 := f 0 0 (by omega) (by omega) (by omega)
  have eD : hD V' h = hD V h := hD_eq t (f 15 h (by omega) (by omega) (by omega))
  refine ⟨⟨t, fun g j q ne b => f j q (by unfold blk at b; omega) (by unfold blk at b; omega) (by unfold blk at b; omega)⟩, ?_, eD⟩
  have eA : hA V' h = hA V h := hA_eq t (f 14 h (by omega) (by omega) (by omega))
  have eM : hM V' h = hM V h := hM_eq (f 5 h (by omega) (by omega) (by omega)) (f 7 h (by omega) (by omega) (by omega))
  have eN : hN V' h = hN V h := hN_eq t (f 17 h (by omega) (by omega) (by omega)) (f 18 h (by omega) (by omega) (by omega))
  have eS : hS V' h = hS V h := hS_eq (f 16 h (by omega) (by omega) (by omega))
  have eB : hB V' h = hB V h := hB_eq b3 (f 19 h (by omega) (by omega) (by omega)) (fun q _ _ => f 21 q (by omega) (by omega) (by omega))
  have eQ : hQ V' h = hQ V h := hQ_eq t (fun q _ _ => f 26 q (by omega) (by omega) (by omega)) (fun q _ _ => f 27 q (by omega) (by omega) (by omega))
  have eR : hR V' h = hR V h := by
    unfold hR
    rw [show (gI V' 31 h).toInt.toNat = (gI V 31 h).toInt.toNat + 1 by omega, sm_s]
    have z : rW V' (4 * h + (gI V 31 h).toInt.toNat) = 0 := by
      unfold rW
      have e20 : (Int64.ofInt 20).toInt = 20 := by decide
      have : gL V' 30 (4 * h + (gI V 31 h).toInt.toNat) = gL V 0 0 + Int64.ofInt 20 + y := by unfold gL; rw [y4 _ (by omega)]; rfl
      rw [this, gL_of t, if_neg]
      have a1 := lw_addc (x := gL V 0 0) (c := 20) TB.1 TB.2 (by decide) (by decide)
      rw [lw_add (by rw [a1]; omega) (by rw [a1]; omega), a1]; omega
    rw [z, Nat.add_zero]
    refine sm_eq _ fun i hi => ?_
    show rW V' _ = rW V _
    unfold rW
    rw [gL_of t, gL_of (f 30 (4 * h + i) (by omega) (by omega) (by omega))]
  have eE : hE V' h = hE V h := hE_eq b2.2 t (f 32 h (by omega) (by omega) (by omega)) (fun j q _ _ _ _ => f j q (by omega) (by omega) (by omega))
  unfold hp
  omega
end
