section
variable {V V' V1 : Nat → Nat → Value} {h : Nat}
theorem w2_le (p : Nat) : w2 p ≤ 9 := by unfold w2; split <;> omega
/-- host h's own rows J change, nothing else: what its step does -/
theorem loc_pot (hh : h < 8) (ty : ∀ g, g < 8 → Ty1 V g) (f : ∀ j q, (blk j q h → False) → V' j q = V j q) (f0 : V' 0 0 = V 0 0) : Out V V' h ∧ (V' 46 0 = V 46 0 ∧ V' 47 0 = V 47 0 ∧ ∀ q, V' 42 q = V 42 q) := by
  refine ⟨⟨f0, fun g j q ne b => f j q (fun c => ?_)⟩, f 46 0 (by unfold blk; omega), f 47 0 (by unfold blk; omega), fun q => f 42 q (by unfold blk; omega)⟩
  unfold blk at b c
  omega
theorem nm_le : hN V h ≤ 2532 := by unfold hN; split; split; all_goals omega
theorem ad_pot (hh : h < 8) (ty : ∀ g, g < 8 → Ty1 V g) (TB : 0 ≤ (gL V 0 0).toInt ∧ (gL V 0 0).toInt ≤ 1000000000) (HA : 0 ≤ (gI V 46 0).toInt ∧ (gI V 46 0).toInt < 800) (HM : 0 ≤ (gI V 47 0).toInt ∧ (gI V 47 0).toInt < 800) (due : (gL V 14 h).toInt ≤ (gL V 0 0).toInt) (a : Ad1 V V' h) : P1 V' + 1 ≤ P1 V ∧ P2 V' ≤ P2 V + 9 := by
  have d11 : hA V h = 11 := by unfold hA; rw [if_pos due]
  rcases a with ⟨V1, F, S, f, g14⟩ | ⟨V1, V2, f, g14, F, S, c⟩
  · obtain ⟨o, a1, a2⟩ := snd_pot hh ty (ty h hh) Out.rf ⟨rfl, rfl, fun _ => rfl⟩ HA HM F S
    have ty1 : ∀ g, g < 8 → Ty1 V1 g := fun g hg => (ty g hg).of fun j q hj => F j q (by omega)
    obtain ⟨b1, b2, b3, b4⟩ := ty1 h hh
    have t : V' 0 0 = V1 0 0 := f 0 0 (by omega)
    have t1 : V1 0 0 = V 0 0 := F 0 0 (by decide)
    have o1 : Out V1 V' h := ⟨t, fun g j q ne b => f j q (by unfold blk at b; omega)⟩
    obtain ⟨q1, q2⟩ := stp_pot hh ty1 o1 ⟨f 46 0 (by omega), f 47 0 (by omega), fun q => f 42 q (by omega)⟩
    have e11 : hA V1 h = 11 := by rw [hA_eq t1 (F 14 h (by omega))]; exact d11
    have e0 : hA V' h = 0 := by unfold hA; rw [g14, gL_of t, gL_of t1, lw_addc TB.1 TB.2 (by decide) (by decide), if_neg (by omega)]
    have w8 : w2 8 = 9 := rfl
    have eD : hD V' h = hD V1 h := hD_eq t (f 15 h (by omega))
    have eM : hM V' h = hM V1 h := hM_eq (f 5 h (by omega)) (f 7 h (by omega))
    have eN : hN V' h = hN V1 h := hN_eq t (f 17 h (by omega)) (f 18 h (by omega))
    have eS : hS V' h = hS V1 h := hS_eq (f 16 h (by omega))
    have eB : hB V' h = hB V1 h := hB_eqA (f 19 h (by omega)) (fun q => (f 21 q (by omega)))
    have eQ : hQ V' h = hQ V1 h := hQ_eq t (fun q _ _ => (f 26 q (by omega))) (fun q _ _ => (f 27 q (by omega)))
    have eR : hR V' h = hR V1 h := hR_eq b1.2 t (f 31 h (by omega)) (fun q _ _ => (f 30 q (by omega)))
    have eE : hE V' h = hE V1 h := hE_eq b2.2 t (f 32 h (by omega)) (fun j q _ _ _ _ => (f j q (by omega)))
    have z : hp V' h + 11 = hp V1 h := by unfold hp; omega
    omega
  · have tyh := ty h hh
    have t : V1 0 0 = V 0 0 := f 0 0 (by omega)
    have o1 : Out V V1 h := ⟨t, fun g j q ne b => f j q (by unfold blk at b; omega)⟩
    have ty1 : ∀ g, g < 8 → Ty1 V1 g := fun g hg => (ty g hg).of fun j q hj => f j q (by omega)
    obtain ⟨o, a1, a2⟩ := snd_pot hh ty (ty1 h hh) o1 ⟨f 46 0 (by omega), f 47 0 (by omega), fun q => f 42 q (by omega)⟩ HA HM F S
    have e0 : hA V1 h = 0 := by
      unfold hA
      rw [gL_of t]
      rcases g14 with g | g
      · rw [g, lw_addc TB.1 TB.2 (by decide) (by decide), if_neg (by omega)]
      · rw [g, show (Int64.ofInt 9223372036854775807).toInt = 9223372036854775807 by decide, if_neg (by omega)]
    obtain ⟨b1, b2, b3, b4⟩ := tyh
    have w1 : w2 1 = 1 := rfl
    have eD : hD V1 h = hD V h := hD_eq t (f 15 h (by omega))
    have eM : hM V1 h = hM V h := hM_eq (f 5 h (by omega)) (f 7 h (by omega))
    have eN : hN V1 h = hN V h := hN_eq t (f 17 h (by omega)) (f 18 h (by omega))
    have eS : hS V1 h = hS V h := hS_eq (f 16 h (by omega))
    have eB : hB V1 h = hB V h := hB_eqA (f 19 h (by omega)) (fun q => (f 21 q (by omega)))
    have eQ : hQ V1 h = hQ V h := hQ_eq t (fun q _ _ => (f 26 q (by omega))) (fun q _ _ => (f 27 q (by omega)))
    have eR : hR V1 h = hR V h := hR_eq b1.2 t (f 31 h (by omega)) (fun q _ _ => (f 30 q (by omega)))
    have eE : hE V1 h = hE V h := hE_eq b2.2 t (f 32 h (by omega)) (fun j q _ _ _ _ => (f j q (by omega)))
    have z : hp V1 h + 11 = hp V h := by unfold hp; omega
    rcases c with c | ⟨n1, f2, m16, m17⟩
    · rw [c]; omega
    · have ty2 : ∀ g, g < 8 → Ty1 V2 g := fun g hg => (ty1 g hg).of fun j q hj => F j q (by omega)
      have t : V' 0 0 = V2 0 0 := f2 0 0 (by omega)
      obtain ⟨b1, b2, b3, b4⟩ := ty2 h hh
      have o2 : Out V2 V' h := ⟨t, fun g j q ne b => f2 j q (by unfold blk at b; omega)⟩
      obtain ⟨q1, q2⟩ := stp_pot hh ty2 o2 ⟨f2 46 0 (by omega), f2 47 0 (by omega), fun q => f2 42 q (by omega)⟩
      have eN : hN V' h ≤ 9 := by unfold hN; rw [m17, if_pos (by decide : (0 : Int) < 3)]; split <;> omega
      have eS : hS V' h = 0 := by unfold hS; rw [m16]; rfl
      have eA : hA V' h = hA V2 h := hA_eq t (f2 14 h (by omega))
      have eD : hD V' h = hD V2 h := hD_eq t (f2 15 h (by omega))
      have eM : hM V' h = hM V2 h := hM_eq (f2 5 h (by omega)) (f2 7 h (by omega))
      have eB : hB V' h = hB V2 h := hB_eqA (f2 19 h (by omega)) (fun q => (f2 21 q (by omega)))
      have eQ : hQ V' h = hQ V2 h := hQ_eq t (fun q _ _ => (f2 26 q (by omega))) (fun q _ _ => (f2 27 q (by omega)))
      have eR : hR V' h = hR V2 h := hR_eq b1.2 t (f2 31 h (by omega)) (fun q _ _ => (f2 30 q (by omega)))
      have eE : hE V' h = hE V2 h := hE_eq b2.2 t (f2 32 h (by omega)) (fun j q _ _ _ _ => (f2 j q (by omega)))
      have z2 : hp V' h ≤ hp V2 h + 9 := by unfold hp; omega
      omega
theorem nm_pot (hh : h < 8) (ty : ∀ g, g < 8 → Ty1 V g) (TB : 0 ≤ (gL V 0 0).toInt ∧ (gL V 0 0).toInt ≤ 1000000000) (HA : 0 ≤ (gI V 46 0).toInt ∧ (gI V 46 0).toInt < 800) (HM : 0 ≤ (gI V 47 0).toInt ∧ (gI V 47 0).toInt < 800) (due : (gL V 18 h).toInt ≤ (gL V 0 0).toInt) (a : Nm1 V V' h) : P1 V' + 1 ≤ P1 V ∧ P2 V' ≤ P2 V + 9 := by
  rcases a with ⟨l3, V1, F, S, f, g18⟩ | ⟨l3, V1, p, f, g18, F, S, hpp⟩
  · have d9 : hN V h = 9 := by unfold hN; rw [if_pos due, if_pos l3]
    obtain ⟨o, a1, a2⟩ := snd_pot hh ty (ty h hh) Out.rf ⟨rfl, rfl, fun _ => rfl⟩ HA HM F S
    have ty1 : ∀ g, g < 8 → Ty1 V1 g := fun g hg => (ty g hg).of fun j q hj => F j q (by omega)
    obtain ⟨b1, b2, b3, b4⟩ := ty1 h hh
    have t : V' 0 0 = V1 0 0 := f 0 0 (by omega)
    have t1 : V1 0 0 = V 0 0 := F 0 0 (by decide)
    have o1 : Out V1 V' h := ⟨t, fun g j q ne b => f j q (by unfold blk at b; omega)⟩
    obtain ⟨q1, q2⟩ := stp_pot hh ty1 o1 ⟨f 46 0 (by omega), f 47 0 (by omega), fun q => f 42 q (by omega)⟩
    have e9 : hN V1 h = 9 := by rw [hN_eq t1 (F 17 h (by omega)) (F 18 h (by omega))]; exact d9
    have e0 : hN V' h = 0 := by unfold hN; rw [g18, gL_of t, gL_of t1, lw_addc TB.1 TB.2 (by decide) (by decide), if_neg (by omega)]
    have w8 : w2 8 = 9 := rfl
    have eA : hA V' h = hA V1 h := hA_eq t (f 14 h (by omega))
    have eD : hD V' h = hD V1 h := hD_eq t (f 15 h (by omega))
    have eM : hM V' h = hM V1 h := hM_eq (f 5 h (by omega)) (f 7 h (by omega))
    have eS : hS V' h = hS V1 h := hS_eq (f 16 h (by omega))
    have eB : hB V' h = hB V1 h := hB_eqA (f 19 h (by omega)) (fun q => (f 21 q (by omega)))
    have eQ : hQ V' h = hQ V1 h := hQ_eq t (fun q _ _ => (f 26 q (by omega))) (fun q _ _ => (f 27 q (by omega)))
    have eR : hR V' h = hR V1 h := hR_eq b1.2 t (f 31 h (by omega)) (fun q _ _ => (f 30 q (by omega)))
    have eE : hE V' h = hE V1 h := hE_eq b2.2 t (f 32 h (by omega)) (fun j q _ _ _ _ => (f j q (by omega)))
    have z : hp V' h + 9 = hp V1 h := by unfold hp; omega
    omega
  · have d9 : hN V h = 2532 := by unfold hN; rw [if_pos due, if_neg (by omega)]
    have t : V1 0 0 = V 0 0 := f 0 0 (by omega)
    have o1 : Out V V1 h := ⟨t, fun g j q ne b => f j q (by unfold blk at b; omega)⟩
    have ty1 : Ty1 V1 h := (ty h hh).of fun j q hj => f j q (by omega)
    obtain ⟨o, a1, a2⟩ := snd_pot hh ty ty1 o1 ⟨f 46 0 (by omega), f 47 0 (by omega), fun q => f 42 q (by omega)⟩ HA HM F S
    have e0 : hN V1 h = 0 := by
      unfold hN
      rw [gL_of t]
      rcases g18 with g | g
      · rw [g, lw_addc TB.1 TB.2 (by decide) (by decide), if_neg (by omega)]
      · rw [g, show (Int64.ofInt 9223372036854775807).toInt = 9223372036854775807 by decide, if_neg (by omega)]
    have eS : hS V1 h ≤ 10 := by unfold hS; split <;> omega
    obtain ⟨b1, b2, b3, b4⟩ := ty h hh
    have := w2_le p
    have eA : hA V1 h = hA V h := hA_eq t (f 14 h (by omega))
    have eD : hD V1 h = hD V h := hD_eq t (f 15 h (by omega))
    have eM : hM V1 h = hM V h := hM_eq (f 5 h (by omega)) (f 7 h (by omega))
    have eB : hB V1 h = hB V h := hB_eqA (f 19 h (by omega)) (fun q => (f 21 q (by omega)))
    have eQ : hQ V1 h = hQ V h := hQ_eq t (fun q _ _ => (f 26 q (by omega))) (fun q _ _ => (f 27 q (by omega)))
    have eR : hR V1 h = hR V h := hR_eq b1.2 t (f 31 h (by omega)) (fun q _ _ => (f 30 q (by omega)))
    have eE : hE V1 h = hE V h := hE_eq b2.2 t (f 32 h (by omega)) (fun j q _ _ _ _ => (f j q (by omega)))
    have z : hp V1 h + 2522 ≤ hp V h := by unfold hp; omega
    omega
theorem as_pot {q : Nat} (hh : h < 8) (ty : ∀ g, g < 8 → Ty1 V g) (TB : 0 ≤ (gL V 0 0).toInt ∧ (gL V 0 0).toInt ≤ 1000000000) (HA : 0 ≤ (gI V 46 0).toInt ∧ (gI V 46 0).toInt < 800) (HM : 0 ≤ (gI V 47 0).toInt ∧ (gI V 47 0).toInt < 800) (w : QW V) (q1 : 4 * h ≤ q) (q2 : q < 4 * h + 4) (qs : 0 < (gI V 26 q).toInt) (due : (gL V 27 q).toInt ≤ (gL V 0 0).toInt) (a : Ask3 V V' q) : (P1 V' + 1 ≤ P1 V ∧ P2 V' ≤ P2 V + 9) ∧ QW V' := by
  obtain ⟨V1, f, g27, g28, F, S⟩ := a
  have t : V1 0 0 = V 0 0 := f 0 0 (by omega)
  have o1 : Out V V1 h := ⟨t, fun g j q' ne b => f j q' (by unfold blk at b; omega)⟩
  have ty1 : Ty1 V1 h := (ty h hh).of fun j q hj => f j q (by omega)
  obtain ⟨o, a1, a2⟩ := snd_pot hh ty ty1 o1 ⟨f 46 0 (by omega), f 47 0 (by omega), fun q => f 42 q (by omega)⟩ HA HM F S
  have w0 := w q (by omega) qs
  have r := n_rng (gI V 28 q)
  have eQ : hQ V1 h + 9 = hQ V h := by
    unfold hQ
    have s := sm_one (f := fun i => qW V1 (4 * h + i)) (g := fun i => qW V (4 * h + i)) (k := q - 4 * h) 4 (by omega) (fun i hi ne => by
      show qW V1 _ = qW V _
      unfold qW
      rw [gL_of t, gI_of (f 26 _ (by omega)), gL_of (f 27 _ (by omega))])
    have e : 4 * h + (q - 4 * h) = q := by omega
    have z1 : qW V q = 9 := by unfold qW; rw [if_pos ⟨qs, due⟩]
    have z2 : qW V1 q = 0 := by
      unfold qW
      rw [g27, gL_of t, if_neg]
      intro z
      have := z.2
      rw [lw_add (by rw [lw_i2l]; omega) (by rw [lw_i2l]; omega), lw_i2l] at this
      omega
    simp only [e, z1, z2] at s
    omega
  obtain ⟨b1, b2, b3, b4⟩ := ty h hh
  have w8 : w2 8 = 9 := rfl
  have eA : hA V1 h = hA V h := hA_eq t (f 14 h (by omega))
  have eD : hD V1 h = hD V h := hD_eq t (f 15 h (by omega))
  have eM : hM V1 h = hM V h := hM_eq (f 5 h (by omega)) (f 7 h (by omega))
  have eN : hN V1 h = hN V h := hN_eq t (f 17 h (by omega)) (f 18 h (by omega))
  have eS : hS V1 h = hS V h := hS_eq (f 16 h (by omega))
  have eB : hB V1 h = hB V h := hB_eqA (f 19 h (by omega)) (fun q => (f 21 q (by omega)))
  have eR : hR V1 h = hR V h := hR_eq b1.2 t (f 31 h (by omega)) (fun q _ _ => (f 30 q (by omega)))
  have eE : hE V1 h = hE V h := hE_eq b2.2 t (f 32 h (by omega)) (fun j q _ _ _ _ => (f j q (by omega)))
  have z : hp V1 h + 9 = hp V h := by unfold hp; omega
  refine ⟨by omega, fun p hp s => ?_⟩
  rw [gI_of (F 26 p (by omega)), gI_of (f 26 p (by omega))] at s
  rw [gI_of (F 28 p (by omega))]
  by_cases e : p = q
  · subst e
    rcases g28 with ⟨c1, c2⟩ | ⟨_, c2⟩
    · have e2 : (Int32.ofInt 2).toInt = 2 := by decide
      rw [c2, n_mul (by rw [e2]; omega) (by rw [e2]; omega), e2]; omega
    · omega
  · rw [gI_of (f 28 p (by omega))]; exact w p hp s
/-- a view by what is read of it -/
def lgB (j : Nat) : Bool := j == 0 || (j == 14 || (j == 15 || (j == 18 || (j == 27 || (j == 30 || (j == 36 || j == 37))))))
def Nv (V : Nat → Nat → Value) : Nat → Nat → Value := fun j q => match lgB j with
  | true => .long (gL V j q)
  | false => .int (gI V j q)
theorem Nv_I {j q j' q' : Nat} (h : gI V' j q = gI V j' q') (h1 : lgB j = false) (h2 : lgB j' = false) : Nv V' j q = Nv V j' q' := by unfold Nv; rw [h1, h2]; simp only [h]
theorem Nv_L {j q j' q' : Nat} (h : gL V' j q = gL V j' q') (h1 : lgB j = true) (h2 : lgB j' = true) : Nv V' j q = Nv V j' q' := by unfold Nv; rw [h1, h2]; simp only [h]
theorem Nv_V {j q : Nat} (h : V' j q = V j q) : Nv V' j q = Nv V j q := by unfold Nv gI gL; rw [h]
theorem P1_N : P1 (Nv V) = P1 V := rfl
theorem P2_N : P2 (Nv V) = P2 V := rfl
theorem hp_N : hp (Nv V) h = hp V h := rfl
theorem hD_N : hD (Nv V) h = hD V h := rfl
end
