/-- what a call of the reference keeps -/
def Rok (V V' : Nat → Nat → Value) : Prop := (QW V → QW V') ∧ (EA V → (∀ g, g < 8 → 0 ≤ (gI V 32 g).toInt ∧ (gI V 32 g).toInt ≤ 24) → EA V') ∧ V' 0 0 = V 0 0 ∧ rg w2 V' ≤ rg w2 V + 1
/-- rows that only fall to 0 -/
def Zr (V V' : Nat → Nat → Value) (j : Nat) : Prop := ∀ q, V' j q = V j q ∨ gI V' j q = 0
theorem Zr.rf {V : Nat → Nat → Value} {j : Nat} : Zr V V j := fun _ => Or.inl rfl
theorem Zr.tr {V V1 V2 : Nat → Nat → Value} {j : Nat} (a : Zr V V1 j) (b : Zr V1 V2 j) : Zr V V2 j := fun q => by
  rcases b q with e | e
  · rcases a q with f | f
    · exact Or.inl (e.trans f)
    · exact Or.inr (by unfold gI; rw [e]; exact f)
  · exact Or.inr e
theorem Zr.up {V : Nat → Nat → Value} {j i : Nat} {w : Int32} (h : w = 0) (hj : isRw j = true) : Zr V (up V j i (.int w)) j := fun q => by
  by_cases e : q = i
  · exact Or.inr (by rw [e, gI_eq]; exact h)
  · exact Or.inl (up_ni hj e)
theorem Zr.of {V V' : Nat → Nat → Value} {j : Nat} (h : ∀ q, V' j q = V j q) : Zr V V' j := fun q => Or.inl (h q)
theorem QW.zr {V V' : Nat → Nat → Value} (w : QW V) (z : Zr V V' 26) (f : ∀ q, V' 28 q = V 28 q) : QW V' := fun q hq s => by
  rcases z q with e | e
  · rw [gI_of e] at s; rw [gI_of (f q)]; exact w q hq s
  · rw [e] at s; exact absurd s (by decide)
theorem EA.zr {V V' : Nat → Nat → Value} (w : EA V) (z : Zr V V' 32) (f : ∀ q, V' 39 q = V 39 q) : EA V' := fun h k h8 k1 k2 => by
  rcases z h with e | e
  · rw [gI_of e] at k2; rw [gI_of (f k)]; exact w h k h8 k1 k2
  · rw [e] at k2; exact absurd k2 (by show ¬ (k : Int) < 24 * (h : Int) + 0; omega)
/-- most calls: neither questions nor entries nor the ring nor the time -/
theorem Rok.fr {V V' : Nat → Nat → Value} (f : ∀ j q, (j = 0 ∨ j = 28 ∨ j = 39 ∨ j = 42 ∨ j = 46 ∨ j = 47) → V' j q = V j q) (z26 : Zr V V' 26) (z32 : Zr V V' 32) : Rok V V' :=
  ⟨fun w => w.zr z26 (fun q => f 28 q (by omega)), fun e _ => e.zr z32 (fun q => f 39 q (by omega)), f 0 0 (by omega), by rw [rg_fr (f 46 0 (by omega)) (f 47 0 (by omega)) (fun q => f 42 q (by omega))]; omega⟩
theorem rg_sndle {V V' : Nat → Nat → Value} {p : Nat} (S : Snd V V' p) (hp : p = 1 ∨ p = 2521) (HA : 0 ≤ (gI V 46 0).toInt ∧ (gI V 46 0).toInt < 800) (HM : 0 ≤ (gI V 47 0).toInt ∧ (gI V 47 0).toInt < 800) : rg w2 V' ≤ rg w2 V + 1 := by
  rw [rg_snd S HA HM]
  have : w2 p = 1 := by rcases hp with e | e <;> subst e <;> rfl
  omega
theorem tk_rg {V V' : Nat → Nat → Value} {h : Nat} {kd nn a : Int} (HA : 0 ≤ (gI V 46 0).toInt ∧ (gI V 46 0).toInt < 800) (HM : 0 ≤ (gI V 47 0).toInt ∧ (gI V 47 0).toInt < 800) (tk : TkE V V' h kd nn a) : rg w2 V' ≤ rg w2 V + 1 := by
  have key : ∀ {U U' : Nat → Nat → Value}, (∀ j q, (j = 42 ∨ j = 46 ∨ j = 47) → U' j q = U j q) → rg w2 U' = rg w2 U := fun f => rg_fr (f 46 0 (by omega)) (f 47 0 (by omega)) (fun q => f 42 q (by omega))
  rcases tk with ⟨u, e⟩ | ⟨-, ⟨-, c⟩ | ⟨-, c⟩ | ⟨-, c⟩ | ⟨-, V1, Q, c⟩ | ⟨-, c⟩ | ⟨-, c⟩⟩
  · rw [key (U := V) fun j q hj => by rw [e, up_ne (by omega)]]; omega
  · rcases c with e | ⟨-, S⟩ | ⟨-, m, -⟩
    · rw [e]; omega
    · exact rg_sndle S (Or.inl rfl) HA HM
    · rw [key (U := V) fun j q hj => m j q (by omega)]; omega
  · rcases c with e | ⟨-, V1, e, -, S⟩ | ⟨-, m, -⟩
    · rw [e]; omega
    · have f : ∀ j q, ¬ j = 15 → V1 j q = V j q := fun j q hj => by rw [e, up_ne hj]
      have := rg_sndle S (Or.inl rfl) (by rw [gI_of (f 46 0 (by omega))]; exact HA) (by rw [gI_of (f 47 0 (by omega))]; exact HM)
      rw [key (U := V) fun j q hj => f j q (by omega)] at this
      exact this
    · rw [key (U := V) fun j q hj => m j q (by omega)]; omega
  · rcases c with e | ⟨-, S⟩ | e
    · rw [e]; omega
    · exact rg_sndle S (Or.inl rfl) HA HM
    · rw [key (U := V) fun j q hj => by rw [e, up_ne (by omega), up_ne (by omega)]]; omega
  · have f : ∀ j q, (j = 42 ∨ j = 46 ∨ j = 47) → V1 j q = V j q := fun j q hj => Q.1 j q (by omega) (by omega)
    rcases c with e | ⟨-, S⟩ | ⟨g, -⟩
    · rw [e, key f]; omega
    · have := rg_sndle S (Or.inl rfl) (by rw [gI_of (f 46 0 (by omega))]; exact HA) (by rw [gI_of (f 47 0 (by omega))]; exact HM)
      rw [key f] at this
      exact this
    · rw [key (U := V) fun j q hj => (g j q (by omega) (by omega) (by omega)).trans (f j q hj)]; omega
  · rw [key (U := V) fun j q hj => by
      rcases hj with e | e | e <;> subst e
      · exact recs_fr _ _ _ _ c 42 q (by omega)
      · exact recs_fr _ _ _ _ c 46 q (Or.inl (by unfold kept; omega))
      · exact recs_fr _ _ _ _ c 47 q (by omega)]
    omega
  · rw [c]; omega
theorem pc_isHost {t n : Nat} {A : Nat → Nat} {hh : Int32} {σ : ps} {x : Option Value × ps} (W : Wld t A σ) (h : prun n 179 0 (lv_args 0 [.ref t, .int hh]) [] σ = some x) : x.2 = σ ∧ ∃ w : Int32, x.1 = some (.int w) ∧ (¬ w.toInt = 0 → 0 ≤ hh.toInt ∧ hh.toInt ≤ 7) := by
  have h : prun n 179 0 [(0, .ref t), (1, .int hh)] [] σ = some x := h
  obtain ⟨n1, l1, h⟩ := v_il h (by decide +kernel : pins 179 0 = some (3, 1, 1, 0, [])) (v := hh) rfl
  obtain ⟨n2, l2, ⟨c1, h⟩ | ⟨c1, h⟩⟩ := u_if2 h (by decide +kernel : pins 179 1 = some (16, 4, 2, ((14 : Nat) : Int), []))
  · obtain ⟨n3, w14, l3, ⟨e14, i14⟩, h⟩ := u_ic h (by decide +kernel : pins 179 14 = some (0, 15, 0, 0, [])) (by decide)
    have ex := u_ret38 h (by decide +kernel : pins 179 15 = some (38, 16, 0, 0, []))
    subst ex
    exact ⟨rfl, _, rfl, fun h => absurd (by rw [i14]) h⟩
  · obtain ⟨n5, l5, h⟩ := v_il h (by decide +kernel : pins 179 4 = some (3, 5, 1, 0, [])) (v := hh) rfl
    obtain ⟨n6, w5, l6, ⟨e5, i5⟩, h⟩ := u_ic h (by decide +kernel : pins 179 5 = some (0, 7, 8, 0, [])) (by decide)
    obtain ⟨n7, l7, ⟨c7, h⟩ | ⟨c7, h⟩⟩ := u_ic3 h (by decide +kernel : pins 179 7 = some (17, 10, 3, ((14 : Nat) : Int), []))
    · obtain ⟨n8, w14, l8, ⟨e14, i14⟩, h⟩ := u_ic h (by decide +kernel : pins 179 14 = some (0, 15, 0, 0, [])) (by decide)
      have ex := u_ret38 h (by decide +kernel : pins 179 15 = some (38, 16, 0, 0, []))
      subst ex
      exact ⟨rfl, _, rfl, fun h => absurd (by rw [i14]) h⟩
    · obtain ⟨n10, w10, l10, ⟨e10, i10⟩, h⟩ := u_ic h (by decide +kernel : pins 179 10 = some (0, 11, 1, 0, [])) (by decide)
      obtain ⟨n11, l11, h⟩ := u_go h (by decide +kernel : pins 179 11 = some (20, 14, 0, ((15 : Nat) : Int), []))
      have ex := u_ret38 h (by decide +kernel : pins 179 15 = some (38, 16, 0, 0, []))
      subst ex
      exact ⟨rfl, _, rfl, fun _ => by rw [i5] at c7; omega⟩
theorem pc_fg_l {t : Nat} {A : Nat → Nat} {hh : Int32} : ∀ (n : Nat) (c : Int32) (σ : ps) (x : Option Value × ps), Wld t A σ → (True) → prun n 181 122 [(2, .int c), (0, .ref t), (1, .int hh)] [] σ = some x → x.1 = none ∧ SP t A σ x.2 ∧ (∀ j q, ¬ j = 26 → vw t A x.2 j q = vw t A σ j q) ∧ Zr (vw t A σ) (vw t A x.2) 26 := by
  intro n
  induction n using Nat.strongRecOn with
  | ind n ih =>
    intro c σ x W I h
    obtain ⟨n1, l1, h⟩ := v_il h (by decide +kernel : pins 181 122 = some (3, 123, 2, 0, [])) (v := c) rfl
    obtain ⟨n2, w123, l2, ⟨e123, i123⟩, h⟩ := u_ic h (by decide +kernel : pins 181 123 = some (0, 124, 4, 0, [])) (by decide)
    obtain ⟨n3, l3, h⟩ := v_il h (by decide +kernel : pins 181 124 = some (3, 125, 1, 0, [])) (v := hh) rfl
    obtain ⟨n4, w125, l4, e125, h⟩ := u_mul h (by decide +kernel : pins 181 125 = some (10, 126, 2, 0, []))
    obtain ⟨n5, w126, l5, ⟨e126, i126⟩, h⟩ := u_ic h (by decide +kernel : pins 181 126 = some (0, 127, 4, 0, [])) (by decide)
    obtain ⟨n6, w127, l6, e127, h⟩ := u_add h (by decide +kernel : pins 181 127 = some (10, 128, 0, 0, []))
    obtain ⟨n7, l7, ⟨c128, h⟩ | ⟨c128, h⟩⟩ := u_ic3 h (by decide +kernel : pins 181 128 = some (17, 131, 3, ((144 : Nat) : Int), []))
    · have ex := u_ret37 h (by decide +kernel : pins 181 144 = some (37, 145, 0, 0, []))
      subst ex
      exact ⟨rfl, SP.rf W, fun _ _ _ => rfl, Zr.rf⟩
    · obtain ⟨n9, l9, h⟩ := v_al h (by decide +kernel : pins 181 131 = some (5, 132, 0, 0, [])) (v := t) rfl
      obtain ⟨n10, l10, h⟩ := w_row (k := 26) W h (by decide +kernel : pins 181 132 = some (22, 135, 13, 26, [])) (by decide)
      obtain ⟨n11, l11, h⟩ := v_il h (by decide +kernel : pins 181 135 = some (3, 136, 2, 0, [])) (v := c) rfl
      obtain ⟨n12, w136, l12, ⟨e136, i136⟩, h⟩ := u_ic h (by decide +kernel : pins 181 136 = some (0, 137, 0, 0, [])) (by decide)
      obtain ⟨n13, s137, l13, b137, S137, u137, h⟩ := w_iast W h (by decide +kernel : pins 181 137 = some (28, 138, 0, 0, [])) (by decide)
      obtain ⟨n14, w138, l14, e138, h⟩ := u_inc h (by decide +kernel : pins 181 138 = some (9, 141, 2, 1, [])) (v := c) rfl
      have h : prun n14 181 141 [(2, .int w138), (0, .ref t), (1, .int hh)] [] s137 = some x := h
      obtain ⟨n15, l15, h⟩ := u_go h (by decide +kernel : pins 181 141 = some (20, 144, 0, ((122 : Nat) : Int), []))
      have h := prun_lv h (lv' := [(2, .int w138), (0, .ref t), (1, .int hh)]) (lvLe.cons (lvLe.cons (lvLe.cons lvLe.nil rfl) rfl) rfl) (by decide : ([2, 0, 1] : List Nat).Nodup) (by decide : ([2, 0, 1] : List Nat).Nodup)
      obtain ⟨y1, y2, y3, y4⟩ := ih n15 (by omega) _ _ x S137.1 trivial h
      have z : Zr (vw t A σ) (vw t A s137) 26 := by rw [u137]; exact Zr.up (by rw [e136]; rfl) (by decide)
      exact ⟨y1, S137.tr y2, fun j q hj => (y3 j q hj).trans (by rw [u137, up_ne hj]), z.tr y4⟩
set_option maxHeartbeats 4000000 in
theorem pc_forgets {t n : Nat} {A : Nat → Nat} {hh : Int32} {σ : ps} {x : Option Value × ps} (W : Wld t A σ) (h : prun n 181 0 (lv_args 0 [.ref t, .int hh]) [] σ = some x) : x.1 = none ∧ SP t A σ x.2 ∧ (∀ j q, ¬ (j = 4 ∨ j = 5 ∨ (7 ≤ j ∧ j ≤ 11) ∨ (13 ≤ j ∧ j ≤ 16) ∨ j = 18 ∨ j = 19 ∨ j = 24 ∨ j = 26 ∨ j = 31 ∨ j = 32) → vw t A x.2 j q = vw t A σ j q) ∧ Zr (vw t A σ) (vw t A x.2) 26 ∧ Zr (vw t A σ) (vw t A x.2) 32 := by
  have h : prun n 181 0 [(0, .ref t), (1, .int hh)] [] σ = some x := h
  obtain ⟨n1, l1, h⟩ := v_al h (by decide +kernel : pins 181 0 = some (5, 1, 0, 0, [])) (v := t) rfl
  obtain ⟨n2, l2, h⟩ := w_row (k := 4) W h (by decide +kernel : pins 181 1 = some (22, 4, 13, 4, [])) (by decide)
  obtain ⟨n3, l3, h⟩ := v_il h (by decide +kernel : pins 181 4 = some (3, 5, 1, 0, [])) (v := hh) rfl
  obtain ⟨n4, w5, l4, ⟨e5, i5⟩, h⟩ := u_ic h (by decide +kernel : pins 181 5 = some (0, 6, 0, 0, [])) (by decide)
  obtain ⟨n5, s6, l5, b6, S6, u6, h⟩ := w_bast W h (by decide +kernel : pins 181 6 = some (29, 7, 0, 0, [])) (by decide) (by decide)
  obtain ⟨n6, l6, h⟩ := v_al h (by decide +kernel : pins 181 7 = some (5, 8, 0, 0, [])) (v := t) rfl
  obtain ⟨n7, l7, h⟩ := w_row (k := 5) S6.1 h (by decide +kernel : pins 181 8 = some (22, 11, 13, 5, [])) (by decide)
  obtain ⟨n8, l8, h⟩ := v_il h (by decide +kernel : pins 181 11 = some (3, 12, 1, 0, [])) (v := hh) rfl
  obtain ⟨n9, w12, l9, ⟨e12, i12⟩, h⟩ := u_ic h (by decide +kernel : pins 181 12 = some (0, 13, 0, 0, [])) (by decide)
  obtain ⟨n10, s13, l10, b13, S13, u13, h⟩ := w_iast S6.1 h (by decide +kernel : pins 181 13 = some (28, 14, 0, 0, [])) (by decide)
  obtain ⟨n11, l11, h⟩ := v_al h (by decide +kernel : pins 181 14 = some (5, 15, 0, 0, [])) (v := t) rfl
  obtain ⟨n12, l12, h⟩ := w_row (k := 7) S13.1 h (by decide +kernel : pins 181 15 = some (22, 18, 13, 7, [])) (by decide)
  obtain ⟨n13, l13, h⟩ := v_il h (by decide +kernel : pins 181 18 = some (3, 19, 1, 0, [])) (v := hh) rfl
  obtain ⟨n14, w19, l14, ⟨e19, i19⟩, h⟩ := u_ic h (by decide +kernel : pins 181 19 = some (0, 20, 0, 0, [])) (by decide)
  obtain ⟨n15, s20, l15, b20, S20, u20, h⟩ := w_iast S13.1 h (by decide +kernel : pins 181 20 = some (28, 21, 0, 0, [])) (by decide)
  obtain ⟨n16, l16, h⟩ := v_al h (by decide +kernel : pins 181 21 = some (5, 22, 0, 0, [])) (v := t) rfl
  obtain ⟨n17, l17, h⟩ := w_row (k := 8) S20.1 h (by decide +kernel : pins 181 22 = some (22, 25, 13, 8, [])) (by decide)
  obtain ⟨n18, l18, h⟩ := v_il h (by decide +kernel : pins 181 25 = some (3, 26, 1, 0, [])) (v := hh) rfl
  obtain ⟨n19, w26, l19, ⟨e26, i26⟩, h⟩ := u_ic h (by decide +kernel : pins 181 26 = some (0, 27, 0, 0, [])) (by decide)
  obtain ⟨n20, s27, l20, b27, S27, u27, h⟩ := w_iast S20.1 h (by decide +kernel : pins 181 27 = some (28, 28, 0, 0, [])) (by decide)
  obtain ⟨n21, l21, h⟩ := v_al h (by decide +kernel : pins 181 28 = some (5, 29, 0, 0, [])) (v := t) rfl
  obtain ⟨n22, l22, h⟩ := w_row (k := 9) S27.1 h (by decide +kernel : pins 181 29 = some (22, 32, 13, 9, [])) (by decide)
  obtain ⟨n23, l23, h⟩ := v_il h (by decide +kernel : pins 181 32 = some (3, 33, 1, 0, [])) (v := hh) rfl
  obtain ⟨n24, w33, l24, ⟨e33, i33⟩, h⟩ := u_ic h (by decide +kernel : pins 181 33 = some (0, 34, 0, 0, [])) (by decide)
  obtain ⟨n25, s34, l25, b34, S34, u34, h⟩ := w_iast S27.1 h (by decide +kernel : pins 181 34 = some (28, 35, 0, 0, [])) (by decide)
  obtain ⟨n26, l26, h⟩ := v_al h (by decide +kernel : pins 181 35 = some (5, 36, 0, 0, [])) (v := t) rfl
  obtain ⟨n27, l27, h⟩ := w_row (k := 10) S34.1 h (by decide +kernel : pins 181 36 = some (22, 39, 13, 10, [])) (by decide)
  obtain ⟨n28, l28, h⟩ := v_il h (by decide +kernel : pins 181 39 = some (3, 40, 1, 0, [])) (v := hh) rfl
  obtain ⟨n29, w40, l29, ⟨e40, i40⟩, h⟩ := u_ic h (by decide +kernel : pins 181 40 = some (0, 41, 0, 0, [])) (by decide)
  obtain ⟨n30, s41, l30, b41, S41, u41, h⟩ := w_iast S34.1 h (by decide +kernel : pins 181 41 = some (28, 42, 0, 0, [])) (by decide)
  obtain ⟨n31, l31, h⟩ := v_al h (by decide +kernel : pins 181 42 = some (5, 43, 0, 0, [])) (v := t) rfl
  obtain ⟨n32, l32, h⟩ := w_row (k := 11) S41.1 h (by decide +kernel : pins 181 43 = some (22, 46, 13, 11, [])) (by decide)
  obtain ⟨n33, l33, h⟩ := v_il h (by decide +kernel : pins 181 46 = some (3, 47, 1, 0, [])) (v := hh) rfl
  obtain ⟨n34, w47, l34, ⟨e47, i47⟩, h⟩ := u_ic h (by decide +kernel : pins 181 47 = some (0, 48, 0, 0, [])) (by decide)
  obtain ⟨n35, s48, l35, b48, S48, u48, h⟩ := w_iast S41.1 h (by decide +kernel : pins 181 48 = some (28, 49, 0, 0, [])) (by decide)
  obtain ⟨n36, l36, h⟩ := v_al h (by decide +kernel : pins 181 49 = some (5, 50, 0, 0, [])) (v := t) rfl
  obtain ⟨n37, l37, h⟩ := w_row (k := 13) S48.1 h (by decide +kernel : pins 181 50 = some (22, 53, 13, 13, [])) (by decide)
  obtain ⟨n38, l38, h⟩ := v_il h (by decide +kernel : pins 181 53 = some (3, 54, 1, 0, [])) (v := hh) rfl
  obtain ⟨n39, w54, l39, ⟨e54, i54⟩, h⟩ := u_ic h (by decide +kernel : pins 181 54 = some (0, 55, 0, 0, [])) (by decide)
  obtain ⟨n40, s55, l40, b55, S55, u55, h⟩ := w_bast S48.1 h (by decide +kernel : pins 181 55 = some (29, 56, 0, 0, [])) (by decide) (by decide)
  obtain ⟨n41, l41, h⟩ := v_al h (by decide +kernel : pins 181 56 = some (5, 57, 0, 0, [])) (v := t) rfl
  obtain ⟨n42, l42, h⟩ := w_row (k := 14) S55.1 h (by decide +kernel : pins 181 57 = some (22, 60, 13, 14, [])) (by decide)
  obtain ⟨n43, l43, h⟩ := v_il h (by decide +kernel : pins 181 60 = some (3, 61, 1, 0, [])) (v := hh) rfl
  obtain ⟨n44, w61, l44, e61, h⟩ := u_lc h (by decide +kernel : pins 181 61 = some (1, 64, 9223372036854775807, 0, []))
  have i61 : w61.toInt = 9223372036854775807 := by rw [e61]; decide
  obtain ⟨n45, s64, l45, b64, S64, u64, h⟩ := w_last S55.1 h (by decide +kernel : pins 181 64 = some (30, 65, 0, 0, [])) (by decide)
  obtain ⟨n46, l46, h⟩ := v_al h (by decide +kernel : pins 181 65 = some (5, 66, 0, 0, [])) (v := t) rfl
  obtain ⟨n47, l47, h⟩ := w_row (k := 15) S64.1 h (by decide +kernel : pins 181 66 = some (22, 69, 13, 15, [])) (by decide)
  obtain ⟨n48, l48, h⟩ := v_il h (by decide +kernel : pins 181 69 = some (3, 70, 1, 0, [])) (v := hh) rfl
  obtain ⟨n49, w70, l49, e70, h⟩ := u_lc h (by decide +kernel : pins 181 70 = some (1, 73, 9223372036854775807, 0, []))
  have i70 : w70.toInt = 9223372036854775807 := by rw [e70]; decide
  obtain ⟨n50, s73, l50, b73, S73, u73, h⟩ := w_last S64.1 h (by decide +kernel : pins 181 73 = some (30, 74, 0, 0, [])) (by decide)
  obtain ⟨n51, l51, h⟩ := v_al h (by decide +kernel : pins 181 74 = some (5, 75, 0, 0, [])) (v := t) rfl
  obtain ⟨n52, l52, h⟩ := w_row (k := 16) S73.1 h (by decide +kernel : pins 181 75 = some (22, 78, 13, 16, [])) (by decide)
  obtain ⟨n53, l53, h⟩ := v_il h (by decide +kernel : pins 181 78 = some (3, 79, 1, 0, [])) (v := hh) rfl
  obtain ⟨n54, w79, l54, ⟨e79, i79⟩, h⟩ := u_ic h (by decide +kernel : pins 181 79 = some (0, 80, 0, 0, [])) (by decide)
  obtain ⟨n55, s80, l55, b80, S80, u80, h⟩ := w_iast S73.1 h (by decide +kernel : pins 181 80 = some (28, 81, 0, 0, [])) (by decide)
  obtain ⟨n56, l56, h⟩ := v_al h (by decide +kernel : pins 181 81 = some (5, 82, 0, 0, [])) (v := t) rfl
  obtain ⟨n57, l57, h⟩ := w_row (k := 18) S80.1 h (by decide +kernel : pins 181 82 = some (22, 85, 13, 18, [])) (by decide)
  obtain ⟨n58, l58, h⟩ := v_il h (by decide +kernel : pins 181 85 = some (3, 86, 1, 0, [])) (v := hh) rfl
  obtain ⟨n59, w86, l59, e86, h⟩ := u_lc h (by decide +kernel : pins 181 86 = some (1, 89, 9223372036854775807, 0, []))
  have i86 : w86.toInt = 9223372036854775807 := by rw [e86]; decide
  obtain ⟨n60, s89, l60, b89, S89, u89, h⟩ := w_last S80.1 h (by decide +kernel : pins 181 89 = some (30, 90, 0, 0, [])) (by decide)
  obtain ⟨n61, l61, h⟩ := v_al h (by decide +kernel : pins 181 90 = some (5, 91, 0, 0, [])) (v := t) rfl
  obtain ⟨n62, l62, h⟩ := w_row (k := 19) S89.1 h (by decide +kernel : pins 181 91 = some (22, 94, 13, 19, [])) (by decide)
  obtain ⟨n63, l63, h⟩ := v_il h (by decide +kernel : pins 181 94 = some (3, 95, 1, 0, [])) (v := hh) rfl
  obtain ⟨n64, w95, l64, ⟨e95, i95⟩, h⟩ := u_ic h (by decide +kernel : pins 181 95 = some (0, 96, 1, 0, [])) (by decide)
  obtain ⟨n65, s96, l65, b96, S96, u96, h⟩ := w_iast S89.1 h (by decide +kernel : pins 181 96 = some (28, 97, 0, 0, [])) (by decide)
  obtain ⟨n66, l66, h⟩ := v_al h (by decide +kernel : pins 181 97 = some (5, 98, 0, 0, [])) (v := t) rfl
  obtain ⟨n67, l67, h⟩ := w_row (k := 24) S96.1 h (by decide +kernel : pins 181 98 = some (22, 101, 13, 24, [])) (by decide)
  obtain ⟨n68, l68, h⟩ := v_il h (by decide +kernel : pins 181 101 = some (3, 102, 1, 0, [])) (v := hh) rfl
  obtain ⟨n69, w102, l69, ⟨e102, i102⟩, h⟩ := u_ic h (by decide +kernel : pins 181 102 = some (0, 103, 0, 0, [])) (by decide)
  obtain ⟨n70, s103, l70, b103, S103, u103, h⟩ := w_iast S96.1 h (by decide +kernel : pins 181 103 = some (28, 104, 0, 0, [])) (by decide)
  obtain ⟨n71, l71, h⟩ := v_al h (by decide +kernel : pins 181 104 = some (5, 105, 0, 0, [])) (v := t) rfl
  obtain ⟨n72, l72, h⟩ := w_row (k := 31) S103.1 h (by decide +kernel : pins 181 105 = some (22, 108, 13, 31, [])) (by decide)
  obtain ⟨n73, l73, h⟩ := v_il h (by decide +kernel : pins 181 108 = some (3, 109, 1, 0, [])) (v := hh) rfl
  obtain ⟨n74, w109, l74, ⟨e109, i109⟩, h⟩ := u_ic h (by decide +kernel : pins 181 109 = some (0, 110, 0, 0, [])) (by decide)
  obtain ⟨n75, s110, l75, b110, S110, u110, h⟩ := w_iast S103.1 h (by decide +kernel : pins 181 110 = some (28, 111, 0, 0, [])) (by decide)
  obtain ⟨n76, l76, h⟩ := v_al h (by decide +kernel : pins 181 111 = some (5, 112, 0, 0, [])) (v := t) rfl
  obtain ⟨n77, l77, h⟩ := w_row (k := 32) S110.1 h (by decide +kernel : pins 181 112 = some (22, 115, 13, 32, [])) (by decide)
  obtain ⟨n78, l78, h⟩ := v_il h (by decide +kernel : pins 181 115 = some (3, 116, 1, 0, [])) (v := hh) rfl
  obtain ⟨n79, w116, l79, ⟨e116, i116⟩, h⟩ := u_ic h (by decide +kernel : pins 181 116 = some (0, 117, 0, 0, [])) (by decide)
  obtain ⟨n80, s117, l80, b117, S117, u117, h⟩ := w_iast S110.1 h (by decide +kernel : pins 181 117 = some (28, 118, 0, 0, [])) (by decide)
  obtain ⟨n81, w118, l81, ⟨e118, i118⟩, h⟩ := u_ic h (by decide +kernel : pins 181 118 = some (0, 119, 4, 0, [])) (by decide)
  obtain ⟨n82, l82, h⟩ := v_il h (by decide +kernel : pins 181 119 = some (3, 120, 1, 0, [])) (v := hh) rfl
  obtain ⟨n83, w120, l83, e120, h⟩ := u_mul h (by decide +kernel : pins 181 120 = some (10, 121, 2, 0, []))
  obtain ⟨n84, l84, h⟩ := v_is h (by decide +kernel : pins 181 121 = some (6, 122, 2, 0, []))
  have h : prun n84 181 122 [(2, .int w120), (0, .ref t), (1, .int hh)] [] s117 = some x := h
  have h := prun_lv h (lv' := [(2, .int w120), (0, .ref t), (1, .int hh)]) (lvLe.cons (lvLe.cons (lvLe.cons lvLe.nil rfl) rfl) rfl) (by decide : ([2, 0, 1] : List Nat).Nodup) (by decide : ([2, 0, 1] : List Nat).Nodup)
  obtain ⟨y1, y2, y3, y4⟩ := pc_fg_l _ _ _ x S117.1 trivial h
  have f : ∀ j q, ¬ (j = 4 ∨ j = 5 ∨ (7 ≤ j ∧ j ≤ 11) ∨ (13 ≤ j ∧ j ≤ 16) ∨ j = 18 ∨ j = 19 ∨ j = 24 ∨ j = 26 ∨ j = 31 ∨ j = 32) → vw t A s117 j q = vw t A σ j q := fun j q hj => by rw [u117, up_ne (by omega), u110, up_ne (by omega), u103, up_ne (by omega), u96, up_ne (by omega), u89, up_ne (by omega), u80, up_ne (by omega), u73, up_ne (by omega), u64, up_ne (by omega), u55, up_ne (by omega), u48, up_ne (by omega), u41, up_ne (by omega), u34, up_ne (by omega), u27, up_ne (by omega), u20, up_ne (by omega), u13, up_ne (by omega), u6, up_ne (by omega)]
  refine ⟨y1, (((((((((((((((S6.tr S13).tr S20).tr S27).tr S34).tr S41).tr S48).tr S55).tr S64).tr S73).tr S80).tr S89).tr S96).tr S103).tr S110).tr S117).tr y2, fun j q hj => (y3 j q (by omega)).trans (f j q hj), ?_, ?_⟩
  · refine Zr.tr (Zr.of fun q => ?_) y4
    rw [u117, up_ne (by decide), u110, up_ne (by decide), u103, up_ne (by decide), u96, up_ne (by decide), u89, up_ne (by decide), u80, up_ne (by decide), u73, up_ne (by decide), u64, up_ne (by decide), u55, up_ne (by decide), u48, up_ne (by decide), u41, up_ne (by decide), u34, up_ne (by decide), u27, up_ne (by decide), u20, up_ne (by decide), u13, up_ne (by decide), u6, up_ne (by decide)]
  · refine Zr.tr (V1 := vw t A s117) ?_ (Zr.of fun q => y3 32 q (by decide))
    rw [u117]
    refine Zr.tr (Zr.of fun q => ?_) (Zr.up (by rw [e116]; rfl) (by decide))
    rw [u110, up_ne (by decide), u103, up_ne (by decide), u96, up_ne (by decide), u89, up_ne (by decide), u80, up_ne (by decide), u73, up_ne (by decide), u64, up_ne (by decide), u55, up_ne (by decide), u48, up_ne (by decide), u41, up_ne (by decide), u34, up_ne (by decide), u27, up_ne (by decide), u20, up_ne (by decide), u13, up_ne (by decide), u6, up_ne (by decide)]
theorem pc_on_l {t : Nat} {A : Nat → Nat} {hh nid : Int32} : ∀ (n : Nat) (c : Int32) (σ : ps) (x : Option Value × ps), Wld t A σ → (True) → prun n 180 38 [(3, .int c), (0, .ref t), (1, .int hh), (2, .int nid)] [] σ = some x → ∃ w : Int32, x.1 = some (.int w) ∧ SP t A σ x.2 ∧ Rok (vw t A σ) (vw t A x.2) := by
  intro n
  induction n using Nat.strongRecOn with
  | ind n ih =>
    intro c σ x W I h
    obtain ⟨n1, l1, h⟩ := v_il h (by decide +kernel : pins 180 38 = some (3, 39, 3, 0, [])) (v := c) rfl
    obtain ⟨n2, w39, l2, ⟨e39, i39⟩, h⟩ := u_ic h (by decide +kernel : pins 180 39 = some (0, 41, 8, 0, [])) (by decide)
    obtain ⟨n3, l3, ⟨c41, h⟩ | ⟨c41, h⟩⟩ := u_ic3 h (by decide +kernel : pins 180 41 = some (17, 44, 3, ((71 : Nat) : Int), []))
    · obtain ⟨n4, l4, h⟩ := v_al h (by decide +kernel : pins 180 71 = some (5, 72, 0, 0, [])) (v := t) rfl
      obtain ⟨n5, l5, h⟩ := v_il h (by decide +kernel : pins 180 72 = some (3, 73, 1, 0, [])) (v := hh) rfl
      obtain ⟨n6, r73, s73, l6, h73, h⟩ := pinv_call h (by decide +kernel : pins 180 73 = some (36, 76, 181, 0, [2]))
      have h73 : prun n6 181 0 (lv_args 0 [.ref t, .int hh]) [] σ = some (r73, s73) := h73
      obtain ⟨er73, S73, f73, z73, y73⟩ := pc_forgets W h73
      have er73 : r73 = none := er73
      subst er73
      try dsimp only at S73
      try dsimp only at f73
      try dsimp only at z73
      try dsimp only at y73
      have h : prun n6 180 76 [(3, .int c), (0, .ref t), (1, .int hh), (2, .int nid)] [] s73 = some x := h
      obtain ⟨n7, l7, h⟩ := v_al h (by decide +kernel : pins 180 76 = some (5, 77, 0, 0, [])) (v := t) rfl
      obtain ⟨n8, l8, h⟩ := w_row (k := 4) S73.1 h (by decide +kernel : pins 180 77 = some (22, 80, 13, 4, [])) (by decide)
      obtain ⟨n9, l9, h⟩ := v_il h (by decide +kernel : pins 180 80 = some (3, 81, 1, 0, [])) (v := hh) rfl
      obtain ⟨n10, w81, l10, ⟨e81, i81⟩, h⟩ := u_ic h (by decide +kernel : pins 180 81 = some (0, 82, 1, 0, [])) (by decide)
      obtain ⟨n11, s82, l11, b82, S82, u82, h⟩ := w_bast S73.1 h (by decide +kernel : pins 180 82 = some (29, 83, 0, 0, [])) (by decide) (by decide)
      obtain ⟨n12, l12, h⟩ := v_al h (by decide +kernel : pins 180 83 = some (5, 84, 0, 0, [])) (v := t) rfl
      obtain ⟨n13, l13, h⟩ := w_row (k := 5) S82.1 h (by decide +kernel : pins 180 84 = some (22, 87, 13, 5, [])) (by decide)
      obtain ⟨n14, l14, h⟩ := v_il h (by decide +kernel : pins 180 87 = some (3, 88, 1, 0, [])) (v := hh) rfl
      obtain ⟨n15, l15, h⟩ := v_il h (by decide +kernel : pins 180 88 = some (3, 89, 2, 0, [])) (v := nid) rfl
      obtain ⟨n16, s89, l16, b89, S89, u89, h⟩ := w_iast S82.1 h (by decide +kernel : pins 180 89 = some (28, 90, 0, 0, [])) (by decide)
      obtain ⟨n17, l17, h⟩ := v_al h (by decide +kernel : pins 180 90 = some (5, 91, 0, 0, [])) (v := t) rfl
      obtain ⟨n18, l18, h⟩ := v_il h (by decide +kernel : pins 180 91 = some (3, 92, 1, 0, [])) (v := hh) rfl
      obtain ⟨n19, r92, s92, l19, h92, h⟩ := pinv_call h (by decide +kernel : pins 180 92 = some (36, 95, 154, 0, [2]))
      have h92 : prun n19 154 0 (lv_args 0 [.ref t, .int hh]) [] s89 = some (r92, s92) := h92
      obtain ⟨er92, S92, f92⟩ := pc_probes S89.1 h92
      have er92 : r92 = none := er92
      subst er92
      try dsimp only at S92
      try dsimp only at f92
      have h : prun n19 180 95 [(3, .int c), (0, .ref t), (1, .int hh), (2, .int nid)] [] s92 = some x := h
      obtain ⟨n20, w95, l20, ⟨e95, i95⟩, h⟩ := u_ic h (by decide +kernel : pins 180 95 = some (0, 96, 1, 0, [])) (by decide)
      have ex := u_ret38 h (by decide +kernel : pins 180 96 = some (38, 97, 0, 0, []))
      subst ex
      have f : ∀ j q, ¬ ((j = 4 ∨ j = 5 ∨ (7 ≤ j ∧ j ≤ 11) ∨ (13 ≤ j ∧ j ≤ 16) ∨ j = 18 ∨ j = 19 ∨ j = 24 ∨ j = 26 ∨ j = 31 ∨ j = 32) ∨ (12 ≤ j ∧ j ≤ 14)) → vw t A s92 j q = vw t A σ j q := fun j q hj => by rw [f92 j q (by omega), u89, up_ne (by omega), u82, up_ne (by omega), f73 j q (by omega)]
      refine ⟨_, rfl, (((S73.tr S82).tr S89).tr S92), Rok.fr (fun j q hj => f j q (by omega)) ?_ ?_⟩
      · exact z73.tr (Zr.of fun q => by rw [f92 26 q (by omega), u89, up_ne (by decide), u82, up_ne (by decide)])
      · exact y73.tr (Zr.of fun q => by rw [f92 32 q (by omega), u89, up_ne (by decide), u82, up_ne (by decide)])
    · obtain ⟨n22, l22, h⟩ := v_al h (by decide +kernel : pins 180 44 = some (5, 45, 0, 0, [])) (v := t) rfl
      obtain ⟨n23, l23, h⟩ := w_row (k := 4) W h (by decide +kernel : pins 180 45 = some (22, 48, 13, 4, [])) (by decide)
      obtain ⟨n24, l24, h⟩ := v_il h (by decide +kernel : pins 180 48 = some (3, 49, 3, 0, [])) (v := c) rfl
      obtain ⟨n25, w49, l25, b49, e49, h⟩ := w_bald W h (by decide +kernel : pins 180 49 = some (25, 50, 0, 0, [])) (by decide)
      obtain ⟨n26, l26, ⟨c50, h⟩ | ⟨c50, h⟩⟩ := u_if0 h (by decide +kernel : pins 180 50 = some (16, 53, 0, ((65 : Nat) : Int), []))
      · obtain ⟨n27, w65, l27, e65, h⟩ := u_inc h (by decide +kernel : pins 180 65 = some (9, 68, 3, 1, [])) (v := c) rfl
        have h : prun n27 180 68 [(3, .int w65), (0, .ref t), (1, .int hh), (2, .int nid)] [] σ = some x := h
        obtain ⟨n28, l28, h⟩ := u_go h (by decide +kernel : pins 180 68 = some (20, 71, 0, ((38 : Nat) : Int), []))
        have h := prun_lv h (lv' := [(3, .int w65), (0, .ref t), (1, .int hh), (2, .int nid)]) (lvLe.cons (lvLe.cons (lvLe.cons (lvLe.cons lvLe.nil rfl) rfl) rfl) rfl) (by decide : ([3, 0, 1, 2] : List Nat).Nodup) (by decide : ([3, 0, 1, 2] : List Nat).Nodup)
        exact ih n28 (by omega) _ _ x W trivial h
      · obtain ⟨n29, l29, h⟩ := v_al h (by decide +kernel : pins 180 53 = some (5, 54, 0, 0, [])) (v := t) rfl
        obtain ⟨n30, l30, h⟩ := w_row (k := 5) W h (by decide +kernel : pins 180 54 = some (22, 57, 13, 5, [])) (by decide)
        obtain ⟨n31, l31, h⟩ := v_il h (by decide +kernel : pins 180 57 = some (3, 58, 3, 0, [])) (v := c) rfl
        obtain ⟨n32, w58, l32, b58, e58, h⟩ := w_iald W h (by decide +kernel : pins 180 58 = some (24, 59, 0, 0, [])) (by decide)
        obtain ⟨n33, l33, h⟩ := v_il h (by decide +kernel : pins 180 59 = some (3, 60, 2, 0, [])) (v := nid) rfl
        obtain ⟨n34, l34, ⟨c60, h⟩ | ⟨c60, h⟩⟩ := u_ic1 h (by decide +kernel : pins 180 60 = some (17, 63, 1, ((65 : Nat) : Int), []))
        · obtain ⟨n35, w65, l35, e65, h⟩ := u_inc h (by decide +kernel : pins 180 65 = some (9, 68, 3, 1, [])) (v := c) rfl
          have h : prun n35 180 68 [(3, .int w65), (0, .ref t), (1, .int hh), (2, .int nid)] [] σ = some x := h
          obtain ⟨n36, l36, h⟩ := u_go h (by decide +kernel : pins 180 68 = some (20, 71, 0, ((38 : Nat) : Int), []))
          have h := prun_lv h (lv' := [(3, .int w65), (0, .ref t), (1, .int hh), (2, .int nid)]) (lvLe.cons (lvLe.cons (lvLe.cons (lvLe.cons lvLe.nil rfl) rfl) rfl) rfl) (by decide : ([3, 0, 1, 2] : List Nat).Nodup) (by decide : ([3, 0, 1, 2] : List Nat).Nodup)
          exact ih n36 (by omega) _ _ x W trivial h
        · obtain ⟨n37, w63, l37, ⟨e63, i63⟩, h⟩ := u_ic h (by decide +kernel : pins 180 63 = some (0, 64, 0, 0, [])) (by decide)
          have ex := u_ret38 h (by decide +kernel : pins 180 64 = some (38, 65, 0, 0, []))
          subst ex
          exact ⟨_, rfl, SP.rf W, Rok.fr (fun _ _ _ => rfl) Zr.rf Zr.rf⟩
theorem Rok.pre {V V1 V2 : Nat → Nat → Value} (f : ∀ j q, (j = 0 ∨ j = 26 ∨ j = 28 ∨ j = 32 ∨ j = 39 ∨ j = 42 ∨ j = 46 ∨ j = 47) → V1 j q = V j q) (r : Rok V1 V2) : Rok V V2 :=
  ⟨fun w => r.1 (w.of fun q => ⟨f 26 q (by omega), f 28 q (by omega)⟩), fun e ty => r.2.1 (e.of fun q => ⟨f 32 q (by omega), f 39 q (by omega)⟩) (fun g hg => by rw [gI_of (f 32 g (by omega))]; exact ty g hg), r.2.2.1.trans (f 0 0 (by omega)), by rw [← rg_fr (f 46 0 (by omega)) (f 47 0 (by omega)) (fun q => f 42 q (by omega))]; exact r.2.2.2⟩
theorem pc_on {t n : Nat} {A : Nat → Nat} {hh nid : Int32} {σ : ps} {x : Option Value × ps} (W : Wld t A σ) (h : prun n 180 0 (lv_args 0 [.ref t, .int hh, .int nid]) [] σ = some x) : ∃ w : Int32, x.1 = some (.int w) ∧ SP t A σ x.2 ∧ Rok (vw t A σ) (vw t A x.2) := by
  have h : prun n 180 0 [(0, .ref t), (1, .int hh), (2, .int nid)] [] σ = some x := h
  obtain ⟨n1, l1, h⟩ := v_al h (by decide +kernel : pins 180 0 = some (5, 1, 0, 0, [])) (v := t) rfl
  obtain ⟨n2, w1, l2, ⟨e1, i1⟩, h⟩ := u_ic h (by decide +kernel : pins 180 1 = some (0, 2, 0, 0, [])) (by decide)
  obtain ⟨n3, s2, l3, S2, u2, h⟩ := w_put (k := 3) W h (by decide +kernel : pins 180 2 = some (23, 5, 13, 3, [])) (by decide)
  obtain ⟨n4, l4, h⟩ := v_al h (by decide +kernel : pins 180 5 = some (5, 6, 0, 0, [])) (v := t) rfl
  obtain ⟨n5, l5, h⟩ := v_il h (by decide +kernel : pins 180 6 = some (3, 7, 1, 0, [])) (v := hh) rfl
  obtain ⟨n6, r7, s7, l6, h7, h⟩ := pinv_call h (by decide +kernel : pins 180 7 = some (36, 10, 179, 0, [2]))
  have h7 : prun n6 179 0 (lv_args 0 [.ref t, .int hh]) [] s2 = some (r7, s7) := h7
  obtain ⟨es7, w7, er7, f7⟩ := pc_isHost S2.1 h7
  have er7 : r7 = some (.int w7) := er7
  have et7 : s7 = s2 := es7
  rw [et7] at h
  subst er7
  have h : prun n6 180 10 [(0, .ref t), (1, .int hh), (2, .int nid)] [.int w7] s2 = some x := h
  obtain ⟨n7, l7, ⟨c10, h⟩ | ⟨c10, h⟩⟩ := u_if0 h (by decide +kernel : pins 180 10 = some (16, 13, 0, ((34 : Nat) : Int), []))
  · obtain ⟨n8, w34, l8, ⟨e34, i34⟩, h⟩ := u_ic h (by decide +kernel : pins 180 34 = some (0, 35, 0, 0, [])) (by decide)
    have ex := u_ret38 h (by decide +kernel : pins 180 35 = some (38, 36, 0, 0, []))
    subst ex
    exact ⟨_, rfl, S2, Rok.fr (fun j q hj => by rw [u2, up_ne (by omega)]) (Zr.of fun q => by rw [u2, up_ne (by decide)]) (Zr.of fun q => by rw [u2, up_ne (by decide)])⟩
  · obtain ⟨n10, l10, h⟩ := v_al h (by decide +kernel : pins 180 13 = some (5, 14, 0, 0, [])) (v := t) rfl
    obtain ⟨n11, l11, h⟩ := w_row (k := 4) S2.1 h (by decide +kernel : pins 180 14 = some (22, 17, 13, 4, [])) (by decide)
    obtain ⟨n12, l12, h⟩ := v_il h (by decide +kernel : pins 180 17 = some (3, 18, 1, 0, [])) (v := hh) rfl
    obtain ⟨n13, w18, l13, b18, e18, h⟩ := w_bald S2.1 h (by decide +kernel : pins 180 18 = some (25, 19, 0, 0, [])) (by decide)
    obtain ⟨n14, l14, ⟨c19, h⟩ | ⟨c19, h⟩⟩ := u_if1 h (by decide +kernel : pins 180 19 = some (16, 22, 1, ((34 : Nat) : Int), []))
    · obtain ⟨n15, w34, l15, ⟨e34, i34⟩, h⟩ := u_ic h (by decide +kernel : pins 180 34 = some (0, 35, 0, 0, [])) (by decide)
      have ex := u_ret38 h (by decide +kernel : pins 180 35 = some (38, 36, 0, 0, []))
      subst ex
      exact ⟨_, rfl, S2, Rok.fr (fun j q hj => by rw [u2, up_ne (by omega)]) (Zr.of fun q => by rw [u2, up_ne (by decide)]) (Zr.of fun q => by rw [u2, up_ne (by decide)])⟩
    · obtain ⟨n17, l17, h⟩ := v_il h (by decide +kernel : pins 180 22 = some (3, 23, 2, 0, [])) (v := nid) rfl
      obtain ⟨n18, w23, l18, ⟨e23, i23⟩, h⟩ := u_ic h (by decide +kernel : pins 180 23 = some (0, 24, 1, 0, [])) (by decide)
      obtain ⟨n19, l19, ⟨c24, h⟩ | ⟨c24, h⟩⟩ := u_ic2 h (by decide +kernel : pins 180 24 = some (17, 27, 2, ((34 : Nat) : Int), []))
      · obtain ⟨n20, w34, l20, ⟨e34, i34⟩, h⟩ := u_ic h (by decide +kernel : pins 180 34 = some (0, 35, 0, 0, [])) (by decide)
        have ex := u_ret38 h (by decide +kernel : pins 180 35 = some (38, 36, 0, 0, []))
        subst ex
        exact ⟨_, rfl, S2, Rok.fr (fun j q hj => by rw [u2, up_ne (by omega)]) (Zr.of fun q => by rw [u2, up_ne (by decide)]) (Zr.of fun q => by rw [u2, up_ne (by decide)])⟩
      · obtain ⟨n22, l22, h⟩ := v_il h (by decide +kernel : pins 180 27 = some (3, 28, 2, 0, [])) (v := nid) rfl
        obtain ⟨n23, w28, l23, ⟨e28, i28⟩, h⟩ := u_ic h (by decide +kernel : pins 180 28 = some (0, 31, 65535, 0, [])) (by decide)
        obtain ⟨n24, l24, ⟨c31, h⟩ | ⟨c31, h⟩⟩ := u_ic5 h (by decide +kernel : pins 180 31 = some (17, 34, 5, ((36 : Nat) : Int), []))
        · obtain ⟨n25, w36, l25, ⟨e36, i36⟩, h⟩ := u_ic h (by decide +kernel : pins 180 36 = some (0, 37, 0, 0, [])) (by decide)
          obtain ⟨n26, l26, h⟩ := v_is h (by decide +kernel : pins 180 37 = some (6, 38, 3, 0, []))
          have h : prun n26 180 38 [(3, .int w36), (0, .ref t), (1, .int hh), (2, .int nid)] [] s2 = some x := h
          have h := prun_lv h (lv' := [(3, .int w36), (0, .ref t), (1, .int hh), (2, .int nid)]) (lvLe.cons (lvLe.cons (lvLe.cons (lvLe.cons lvLe.nil rfl) rfl) rfl) rfl) (by decide : ([3, 0, 1, 2] : List Nat).Nodup) (by decide : ([3, 0, 1, 2] : List Nat).Nodup)
          obtain ⟨w, y1, y2, y3⟩ := pc_on_l _ _ _ x S2.1 trivial h
          exact ⟨w, y1, S2.tr y2, Rok.pre (by rw [u2]; exact fun j q hj => up_ne (by omega)) y3⟩
        · obtain ⟨n27, w34, l27, ⟨e34, i34⟩, h⟩ := u_ic h (by decide +kernel : pins 180 34 = some (0, 35, 0, 0, [])) (by decide)
          have ex := u_ret38 h (by decide +kernel : pins 180 35 = some (38, 36, 0, 0, []))
          subst ex
          exact ⟨_, rfl, S2, Rok.fr (fun j q hj => by rw [u2, up_ne (by omega)]) (Zr.of fun q => by rw [u2, up_ne (by decide)]) (Zr.of fun q => by rw [u2, up_ne (by decide)])⟩
theorem pc_off {t n : Nat} {A : Nat → Nat} {hh pol : Int32} {σ : ps} {x : Option Value × ps} (W : Wld t A σ) (h : prun n 182 0 (lv_args 0 [.ref t, .int hh, .int pol]) [] σ = some x) (HA : 0 ≤ (gI (vw t A σ) 46 0).toInt ∧ (gI (vw t A σ) 46 0).toInt < 800) (HM : 0 ≤ (gI (vw t A σ) 47 0).toInt ∧ (gI (vw t A σ) 47 0).toInt ≤ 1000) (HM8 : (gI (vw t A σ) 47 0).toInt < 800) : ∃ w : Int32, x.1 = some (.int w) ∧ SP t A σ x.2 ∧ Rok (vw t A σ) (vw t A x.2) := by
  have h : prun n 182 0 [(0, .ref t), (1, .int hh), (2, .int pol)] [] σ = some x := h
  obtain ⟨n1, l1, h⟩ := v_al h (by decide +kernel : pins 182 0 = some (5, 1, 0, 0, [])) (v := t) rfl
  obtain ⟨n2, w1, l2, ⟨e1, i1⟩, h⟩ := u_ic h (by decide +kernel : pins 182 1 = some (0, 2, 0, 0, [])) (by decide)
  obtain ⟨n3, s2, l3, S2, u2, h⟩ := w_put (k := 3) W h (by decide +kernel : pins 182 2 = some (23, 5, 13, 3, [])) (by decide)
  obtain ⟨n4, l4, h⟩ := v_al h (by decide +kernel : pins 182 5 = some (5, 6, 0, 0, [])) (v := t) rfl
  obtain ⟨n5, l5, h⟩ := v_il h (by decide +kernel : pins 182 6 = some (3, 7, 1, 0, [])) (v := hh) rfl
  obtain ⟨n6, r7, s7, l6, h7, h⟩ := pinv_call h (by decide +kernel : pins 182 7 = some (36, 10, 179, 0, [2]))
  have h7 : prun n6 179 0 (lv_args 0 [.ref t, .int hh]) [] s2 = some (r7, s7) := h7
  obtain ⟨es7, w7, er7, f7⟩ := pc_isHost S2.1 h7
  have er7 : r7 = some (.int w7) := er7
  have et7 : s7 = s2 := es7
  rw [et7] at h
  subst er7
  have h : prun n6 182 10 [(0, .ref t), (1, .int hh), (2, .int pol)] [.int w7] s2 = some x := h
  obtain ⟨n7, l7, ⟨c10, h⟩ | ⟨c10, h⟩⟩ := u_if0 h (by decide +kernel : pins 182 10 = some (16, 13, 0, ((22 : Nat) : Int), []))
  · obtain ⟨n8, w22, l8, ⟨e22, i22⟩, h⟩ := u_ic h (by decide +kernel : pins 182 22 = some (0, 23, 0, 0, [])) (by decide)
    have ex := u_ret38 h (by decide +kernel : pins 182 23 = some (38, 24, 0, 0, []))
    subst ex
    exact ⟨_, rfl, S2, Rok.fr (fun j q hj => by rw [u2, up_ne (by omega)]) (Zr.of fun q => by rw [u2, up_ne (by decide)]) (Zr.of fun q => by rw [u2, up_ne (by decide)])⟩
  · obtain ⟨n10, l10, h⟩ := v_al h (by decide +kernel : pins 182 13 = some (5, 14, 0, 0, [])) (v := t) rfl
    obtain ⟨n11, l11, h⟩ := w_row (k := 4) S2.1 h (by decide +kernel : pins 182 14 = some (22, 17, 13, 4, [])) (by decide)
    obtain ⟨n12, l12, h⟩ := v_il h (by decide +kernel : pins 182 17 = some (3, 18, 1, 0, [])) (v := hh) rfl
    obtain ⟨n13, w18, l13, b18, e18, h⟩ := w_bald S2.1 h (by decide +kernel : pins 182 18 = some (25, 19, 0, 0, [])) (by decide)
    obtain ⟨n14, l14, ⟨c19, h⟩ | ⟨c19, h⟩⟩ := u_if1 h (by decide +kernel : pins 182 19 = some (16, 22, 1, ((24 : Nat) : Int), []))
    · obtain ⟨n15, l15, h⟩ := v_il h (by decide +kernel : pins 182 24 = some (3, 25, 2, 0, [])) (v := pol) rfl
      obtain ⟨n16, l16, ⟨c25, h⟩ | ⟨c25, h⟩⟩ := u_if0 h (by decide +kernel : pins 182 25 = some (16, 28, 0, ((45 : Nat) : Int), []))
      · obtain ⟨n17, l17, h⟩ := v_al h (by decide +kernel : pins 182 45 = some (5, 46, 0, 0, [])) (v := t) rfl
        obtain ⟨n18, l18, h⟩ := v_il h (by decide +kernel : pins 182 46 = some (3, 47, 1, 0, [])) (v := hh) rfl
        obtain ⟨n19, r47, s47, l19, h47, h⟩ := pinv_call h (by decide +kernel : pins 182 47 = some (36, 50, 181, 0, [2]))
        have h47 : prun n19 181 0 (lv_args 0 [.ref t, .int hh]) [] s2 = some (r47, s47) := h47
        obtain ⟨er47, S47, f47, z47, y47⟩ := pc_forgets S2.1 h47
        have er47 : r47 = none := er47
        subst er47
        try dsimp only at S47
        try dsimp only at f47
        try dsimp only at z47
        try dsimp only at y47
        have h : prun n19 182 50 [(0, .ref t), (1, .int hh), (2, .int pol)] [] s47 = some x := h
        obtain ⟨n20, w50, l20, ⟨e50, i50⟩, h⟩ := u_ic h (by decide +kernel : pins 182 50 = some (0, 51, 1, 0, [])) (by decide)
        have ex := u_ret38 h (by decide +kernel : pins 182 51 = some (38, 52, 0, 0, []))
        subst ex
        have f : ∀ j q, ¬ (j = 4 ∨ j = 5 ∨ (7 ≤ j ∧ j ≤ 11) ∨ (13 ≤ j ∧ j ≤ 16) ∨ j = 18 ∨ j = 19 ∨ j = 24 ∨ j = 26 ∨ j = 31 ∨ j = 32) → ¬ j = 3 → vw t A s47 j q = vw t A σ j q := fun j q hj h3 => by rw [f47 j q hj, u2, up_ne h3]
        refine ⟨_, rfl, (S2.tr S47), Rok.fr (fun j q hj => f j q (by omega) (by omega)) ?_ ?_⟩
        · exact (Zr.of fun q => by rw [u2, up_ne (by decide)]).tr z47
        · exact (Zr.of fun q => by rw [u2, up_ne (by decide)]).tr y47
      · obtain ⟨n22, l22, h⟩ := v_al h (by decide +kernel : pins 182 28 = some (5, 29, 0, 0, [])) (v := t) rfl
        obtain ⟨n23, l23, h⟩ := w_row (k := 16) S2.1 h (by decide +kernel : pins 182 29 = some (22, 32, 13, 16, [])) (by decide)
        obtain ⟨n24, l24, h⟩ := v_il h (by decide +kernel : pins 182 32 = some (3, 33, 1, 0, [])) (v := hh) rfl
        obtain ⟨n25, w33, l25, b33, e33, h⟩ := w_iald S2.1 h (by decide +kernel : pins 182 33 = some (24, 34, 0, 0, [])) (by decide)
        obtain ⟨n26, w34, l26, ⟨e34, i34⟩, h⟩ := u_ic h (by decide +kernel : pins 182 34 = some (0, 35, 3, 0, [])) (by decide)
        obtain ⟨n27, l27, ⟨c35, h⟩ | ⟨c35, h⟩⟩ := u_ic1 h (by decide +kernel : pins 182 35 = some (17, 38, 1, ((45 : Nat) : Int), []))
        · obtain ⟨n28, l28, h⟩ := v_al h (by decide +kernel : pins 182 45 = some (5, 46, 0, 0, [])) (v := t) rfl
          obtain ⟨n29, l29, h⟩ := v_il h (by decide +kernel : pins 182 46 = some (3, 47, 1, 0, [])) (v := hh) rfl
          obtain ⟨n30, r47, s47, l30, h47, h⟩ := pinv_call h (by decide +kernel : pins 182 47 = some (36, 50, 181, 0, [2]))
          have h47 : prun n30 181 0 (lv_args 0 [.ref t, .int hh]) [] s2 = some (r47, s47) := h47
          obtain ⟨er47, S47, f47, z47, y47⟩ := pc_forgets S2.1 h47
          have er47 : r47 = none := er47
          subst er47
          try dsimp only at S47
          try dsimp only at f47
          try dsimp only at z47
          try dsimp only at y47
          have h : prun n30 182 50 [(0, .ref t), (1, .int hh), (2, .int pol)] [] s47 = some x := h
          obtain ⟨n31, w50, l31, ⟨e50, i50⟩, h⟩ := u_ic h (by decide +kernel : pins 182 50 = some (0, 51, 1, 0, [])) (by decide)
          have ex := u_ret38 h (by decide +kernel : pins 182 51 = some (38, 52, 0, 0, []))
          subst ex
          have f : ∀ j q, ¬ (j = 4 ∨ j = 5 ∨ (7 ≤ j ∧ j ≤ 11) ∨ (13 ≤ j ∧ j ≤ 16) ∨ j = 18 ∨ j = 19 ∨ j = 24 ∨ j = 26 ∨ j = 31 ∨ j = 32) → ¬ j = 3 → vw t A s47 j q = vw t A σ j q := fun j q hj h3 => by rw [f47 j q hj, u2, up_ne h3]
          refine ⟨_, rfl, (S2.tr S47), Rok.fr (fun j q hj => f j q (by omega) (by omega)) ?_ ?_⟩
          · exact (Zr.of fun q => by rw [u2, up_ne (by decide)]).tr z47
          · exact (Zr.of fun q => by rw [u2, up_ne (by decide)]).tr y47
        · obtain ⟨n33, l33, h⟩ := v_al h (by decide +kernel : pins 182 38 = some (5, 39, 0, 0, [])) (v := t) rfl
          obtain ⟨n34, l34, h⟩ := v_il h (by decide +kernel : pins 182 39 = some (3, 40, 1, 0, [])) (v := hh) rfl
          obtain ⟨n35, w40, l35, ⟨e40, i40⟩, h⟩ := u_ic h (by decide +kernel : pins 182 40 = some (0, 41, 0, 0, [])) (by decide)
          obtain ⟨n36, w41, l36, ⟨e41, i41⟩, h⟩ := u_ic h (by decide +kernel : pins 182 41 = some (0, 42, 1, 0, [])) (by decide)
          obtain ⟨n37, r42, s42, l37, h42, h⟩ := pinv_call h (by decide +kernel : pins 182 42 = some (36, 45, 152, 0, [4]))
          have h42 : prun n37 152 0 (lv_args 0 [.ref t, .int hh, .int w40, .int w41]) [] s2 = some (r42, s42) := h42
          have HA2 : 0 ≤ (gI (vw t A s2) 46 0).toInt ∧ (gI (vw t A s2) 46 0).toInt < 800 := by rw [u2, gI_ne (by decide)]; exact HA
          have HM2 : 0 ≤ (gI (vw t A s2) 47 0).toInt ∧ (gI (vw t A s2) 47 0).toInt ≤ 1000 := by rw [u2, gI_ne (by decide)]; exact HM
          obtain ⟨er42, S42, F42, N42⟩ := pc_tells S2.1 h42 HA2 HM2
          have er42 : r42 = none := er42
          subst er42
          try dsimp only at S42
          try dsimp only at F42
          try dsimp only at N42
          have h : prun n37 182 45 [(0, .ref t), (1, .int hh), (2, .int pol)] [] s42 = some x := h
          obtain ⟨n38, l38, h⟩ := v_al h (by decide +kernel : pins 182 45 = some (5, 46, 0, 0, [])) (v := t) rfl
          obtain ⟨n39, l39, h⟩ := v_il h (by decide +kernel : pins 182 46 = some (3, 47, 1, 0, [])) (v := hh) rfl
          obtain ⟨n40, r47, s47, l40, h47, h⟩ := pinv_call h (by decide +kernel : pins 182 47 = some (36, 50, 181, 0, [2]))
          have h47 : prun n40 181 0 (lv_args 0 [.ref t, .int hh]) [] s42 = some (r47, s47) := h47
          obtain ⟨er47, S47, f47, z47, y47⟩ := pc_forgets S42.1 h47
          have er47 : r47 = none := er47
          subst er47
          try dsimp only at S47
          try dsimp only at f47
          try dsimp only at z47
          try dsimp only at y47
          have h : prun n40 182 50 [(0, .ref t), (1, .int hh), (2, .int pol)] [] s47 = some x := h
          obtain ⟨n41, w50, l41, ⟨e50, i50⟩, h⟩ := u_ic h (by decide +kernel : pins 182 50 = some (0, 51, 1, 0, [])) (by decide)
          have ex := u_ret38 h (by decide +kernel : pins 182 51 = some (38, 52, 0, 0, []))
          subst ex
          obtain ⟨p, n1, n2, _⟩ := N42
          have HA2 : 0 ≤ (gI (vw t A s2) 46 0).toInt ∧ (gI (vw t A s2) 46 0).toInt < 800 := by rw [u2, gI_ne (by decide)]; exact HA
          have HM2 : 0 ≤ (gI (vw t A s2) 47 0).toInt ∧ (gI (vw t A s2) 47 0).toInt < 800 := by rw [u2, gI_ne (by decide)]; exact ⟨HM.1, HM8⟩
          have r1 := rg_sndle n1 n2 HA2 HM2
          have e1 : rg w2 (vw t A s2) = rg w2 (vw t A σ) := by rw [u2]; exact rg_fr (up_ne (by decide)) (up_ne (by decide)) (fun q => up_ne (by decide))
          have e2 : rg w2 (vw t A s47) = rg w2 (vw t A s42) := rg_fr (f47 46 0 (by omega)) (f47 47 0 (by omega)) (fun q => f47 42 q (by omega))
          have lo : ∀ j q, j < 42 → ¬ j = 3 → vw t A s42 j q = vw t A σ j q := fun j q h1 h2 => by rw [F42 j q (by omega), u2, up_ne h2]
          refine ⟨_, rfl, ((S2.tr S42).tr S47), fun w => (w.of fun q => ⟨lo 26 q (by omega) (by omega), lo 28 q (by omega) (by omega)⟩).zr z47 (fun q => f47 28 q (by omega)), fun e ty => (e.of fun q => ⟨lo 32 q (by omega) (by omega), lo 39 q (by omega) (by omega)⟩).zr y47 (fun q => f47 39 q (by omega)), ?_, ?_⟩
          · show vw t A s47 0 0 = _
            rw [f47 0 0 (by omega), lo 0 0 (by omega) (by omega)]
          · show rg w2 (vw t A s47) ≤ _
            rw [e2, ← e1]; exact r1
    · obtain ⟨n43, w22, l43, ⟨e22, i22⟩, h⟩ := u_ic h (by decide +kernel : pins 182 22 = some (0, 23, 0, 0, [])) (by decide)
      have ex := u_ret38 h (by decide +kernel : pins 182 23 = some (38, 24, 0, 0, []))
      subst ex
      exact ⟨_, rfl, S2, Rok.fr (fun j q hj => by rw [u2, up_ne (by omega)]) (Zr.of fun q => by rw [u2, up_ne (by decide)]) (Zr.of fun q => by rw [u2, up_ne (by decide)])⟩
theorem pc_tw_l {t : Nat} {A : Nat → Nat} {nn : Int32} : ∀ (n : Nat) (c is : Int32) (σ : ps) (x : Option Value × ps), Wld t A σ → (True) → prun n 143 34 [(3, .int c), (2, .int is), (0, .ref t), (1, .int nn)] [] σ = some x → ∃ w : Int32, x.1 = some (.int w) ∧ SP t A σ x.2 ∧ ∀ j q, ¬ j = 51 → vw t A x.2 j q = vw t A σ j q := by
  intro n
  induction n using Nat.strongRecOn with
  | ind n ih =>
    intro c is σ x W I h
    obtain ⟨n1, l1, h⟩ := v_il h (by decide +kernel : pins 143 34 = some (3, 35, 3, 0, [])) (v := c) rfl
    obtain ⟨n2, l2, h⟩ := v_il h (by decide +kernel : pins 143 35 = some (3, 36, 1, 0, [])) (v := nn) rfl
    obtain ⟨n3, l3, ⟨c36, h⟩ | ⟨c36, h⟩⟩ := u_ic3 h (by decide +kernel : pins 143 36 = some (17, 39, 3, ((81 : Nat) : Int), []))
    · obtain ⟨n4, l4, h⟩ := v_il h (by decide +kernel : pins 143 81 = some (3, 82, 2, 0, [])) (v := is) rfl
      have ex := u_ret38 h (by decide +kernel : pins 143 82 = some (38, 83, 0, 0, []))
      subst ex
      exact ⟨_, rfl, SP.rf W, fun _ _ _ => rfl⟩
    · obtain ⟨n6, l6, h⟩ := v_al h (by decide +kernel : pins 143 39 = some (5, 40, 0, 0, [])) (v := t) rfl
      obtain ⟨n7, l7, h⟩ := w_row (k := 51) W h (by decide +kernel : pins 143 40 = some (22, 43, 13, 51, [])) (by decide)
      obtain ⟨n8, w43, l8, ⟨e43, i43⟩, h⟩ := u_ic h (by decide +kernel : pins 143 43 = some (0, 44, 1, 0, [])) (by decide)
      obtain ⟨n9, l9, h⟩ := v_il h (by decide +kernel : pins 143 44 = some (3, 45, 3, 0, [])) (v := c) rfl
      obtain ⟨n10, w45, l10, e45, h⟩ := u_add h (by decide +kernel : pins 143 45 = some (10, 46, 0, 0, []))
      obtain ⟨n11, l11, h⟩ := v_al h (by decide +kernel : pins 143 46 = some (5, 47, 0, 0, [])) (v := t) rfl
      obtain ⟨n12, l12, h⟩ := w_row (k := 1) W h (by decide +kernel : pins 143 47 = some (22, 50, 13, 1, [])) (by decide)
      obtain ⟨n13, l13, h⟩ := v_il h (by decide +kernel : pins 143 50 = some (3, 51, 3, 0, [])) (v := c) rfl
      obtain ⟨n14, w51, l14, b51, e51, h⟩ := w_iald W h (by decide +kernel : pins 143 51 = some (24, 52, 0, 0, [])) (by decide)
      obtain ⟨n15, s52, l15, b52, S52, u52, h⟩ := w_iast W h (by decide +kernel : pins 143 52 = some (28, 53, 0, 0, [])) (by decide)
      obtain ⟨n16, l16, h⟩ := v_il h (by decide +kernel : pins 143 53 = some (3, 54, 2, 0, [])) (v := is) rfl
      obtain ⟨n17, l17, ⟨c54, h⟩ | ⟨c54, h⟩⟩ := u_if0 h (by decide +kernel : pins 143 54 = some (16, 57, 0, ((73 : Nat) : Int), []))
      · obtain ⟨n18, w73, l18, ⟨e73, i73⟩, h⟩ := u_ic h (by decide +kernel : pins 143 73 = some (0, 74, 0, 0, [])) (by decide)
        obtain ⟨n19, l19, h⟩ := v_is h (by decide +kernel : pins 143 74 = some (6, 75, 2, 0, []))
        have h : prun n19 143 75 [(2, .int w73), (3, .int c), (0, .ref t), (1, .int nn)] [] s52 = some x := h
        obtain ⟨n20, w75, l20, e75, h⟩ := u_inc h (by decide +kernel : pins 143 75 = some (9, 78, 3, 1, [])) (v := c) rfl
        have h : prun n20 143 78 [(3, .int w75), (2, .int w73), (0, .ref t), (1, .int nn)] [] s52 = some x := h
        obtain ⟨n21, l21, h⟩ := u_go h (by decide +kernel : pins 143 78 = some (20, 81, 0, ((34 : Nat) : Int), []))
        have h := prun_lv h (lv' := [(3, .int w75), (2, .int w73), (0, .ref t), (1, .int nn)]) (lvLe.cons (lvLe.cons (lvLe.cons (lvLe.cons lvLe.nil rfl) rfl) rfl) rfl) (by decide : ([3, 2, 0, 1] : List Nat).Nodup) (by decide : ([3, 2, 0, 1] : List Nat).Nodup)
        obtain ⟨w, y1, y2, y3⟩ := ih n21 (by omega) _ _ _ x S52.1 trivial h
        exact ⟨w, y1, S52.tr y2, fun j q hj => (y3 j q hj).trans (by rw [u52, up_ne hj])⟩
      · obtain ⟨n22, l22, h⟩ := v_al h (by decide +kernel : pins 143 57 = some (5, 58, 0, 0, [])) (v := t) rfl
        obtain ⟨n23, l23, h⟩ := w_row (k := 1) S52.1 h (by decide +kernel : pins 143 58 = some (22, 61, 13, 1, [])) (by decide)
        obtain ⟨n24, l24, h⟩ := v_il h (by decide +kernel : pins 143 61 = some (3, 62, 3, 0, [])) (v := c) rfl
        obtain ⟨n25, w62, l25, b62, e62, h⟩ := w_iald S52.1 h (by decide +kernel : pins 143 62 = some (24, 63, 0, 0, [])) (by decide)
        obtain ⟨n26, r63, s63, l26, h63, h⟩ := pinv_call h (by decide +kernel : pins 143 63 = some (36, 66, 139, 1, [1]))
        have h63 : prun n26 139 0 (lv_args 0 [.int w62]) [] s52 = some (r63, s63) := h63
        obtain ⟨es63, w63, er63, _⟩ := isSign_ S52.1 h63
        have er63 : r63 = some (.int w63) := er63
        have et63 : s63 = s52 := es63
        rw [et63] at h
        subst er63
        have h : prun n26 143 66 [(3, .int c), (2, .int is), (0, .ref t), (1, .int nn)] [.int w63] s52 = some x := h
        obtain ⟨n27, l27, ⟨c66, h⟩ | ⟨c66, h⟩⟩ := u_if0 h (by decide +kernel : pins 143 66 = some (16, 69, 0, ((73 : Nat) : Int), []))
        · obtain ⟨n28, w73, l28, ⟨e73, i73⟩, h⟩ := u_ic h (by decide +kernel : pins 143 73 = some (0, 74, 0, 0, [])) (by decide)
          obtain ⟨n29, l29, h⟩ := v_is h (by decide +kernel : pins 143 74 = some (6, 75, 2, 0, []))
          have h : prun n29 143 75 [(2, .int w73), (3, .int c), (0, .ref t), (1, .int nn)] [] s52 = some x := h
          obtain ⟨n30, w75, l30, e75, h⟩ := u_inc h (by decide +kernel : pins 143 75 = some (9, 78, 3, 1, [])) (v := c) rfl
          have h : prun n30 143 78 [(3, .int w75), (2, .int w73), (0, .ref t), (1, .int nn)] [] s52 = some x := h
          obtain ⟨n31, l31, h⟩ := u_go h (by decide +kernel : pins 143 78 = some (20, 81, 0, ((34 : Nat) : Int), []))
          have h := prun_lv h (lv' := [(3, .int w75), (2, .int w73), (0, .ref t), (1, .int nn)]) (lvLe.cons (lvLe.cons (lvLe.cons (lvLe.cons lvLe.nil rfl) rfl) rfl) rfl) (by decide : ([3, 2, 0, 1] : List Nat).Nodup) (by decide : ([3, 2, 0, 1] : List Nat).Nodup)
          obtain ⟨w, y1, y2, y3⟩ := ih n31 (by omega) _ _ _ x S52.1 trivial h
          exact ⟨w, y1, S52.tr y2, fun j q hj => (y3 j q hj).trans (by rw [u52, up_ne hj])⟩
        · obtain ⟨n32, w69, l32, ⟨e69, i69⟩, h⟩ := u_ic h (by decide +kernel : pins 143 69 = some (0, 70, 1, 0, [])) (by decide)
          obtain ⟨n33, l33, h⟩ := u_go h (by decide +kernel : pins 143 70 = some (20, 73, 0, ((74 : Nat) : Int), []))
          obtain ⟨n34, l34, h⟩ := v_is h (by decide +kernel : pins 143 74 = some (6, 75, 2, 0, []))
          have h : prun n34 143 75 [(2, .int w69), (3, .int c), (0, .ref t), (1, .int nn)] [] s52 = some x := h
          obtain ⟨n35, w75, l35, e75, h⟩ := u_inc h (by decide +kernel : pins 143 75 = some (9, 78, 3, 1, [])) (v := c) rfl
          have h : prun n35 143 78 [(3, .int w75), (2, .int w69), (0, .ref t), (1, .int nn)] [] s52 = some x := h
          obtain ⟨n36, l36, h⟩ := u_go h (by decide +kernel : pins 143 78 = some (20, 81, 0, ((34 : Nat) : Int), []))
          have h := prun_lv h (lv' := [(3, .int w75), (2, .int w69), (0, .ref t), (1, .int nn)]) (lvLe.cons (lvLe.cons (lvLe.cons (lvLe.cons lvLe.nil rfl) rfl) rfl) rfl) (by decide : ([3, 2, 0, 1] : List Nat).Nodup) (by decide : ([3, 2, 0, 1] : List Nat).Nodup)
          obtain ⟨w, y1, y2, y3⟩ := ih n36 (by omega) _ _ _ x S52.1 trivial h
          exact ⟨w, y1, S52.tr y2, fun j q hj => (y3 j q hj).trans (by rw [u52, up_ne hj])⟩
theorem pc_takesWord {t n : Nat} {A : Nat → Nat}  {σ : ps} {x : Option Value × ps} (W : Wld t A σ) (h : prun n 143 0 (lv_args 0 [.ref t]) [] σ = some x) : ∃ w : Int32, x.1 = some (.int w) ∧ SP t A σ x.2 ∧ ∀ j q, ¬ j = 51 → ¬ j = 2 → vw t A x.2 j q = vw t A σ j q := by
  have h : prun n 143 0 [(0, .ref t)] [] σ = some x := h
  obtain ⟨n1, l1, h⟩ := v_al h (by decide +kernel : pins 143 0 = some (5, 1, 0, 0, [])) (v := t) rfl
  obtain ⟨n2, w1, l2, e1, h⟩ := w_fi (k := 2) W h (by decide +kernel : pins 143 1 = some (22, 4, 13, 2, [])) (by decide)
  obtain ⟨n3, l3, h⟩ := v_is h (by decide +kernel : pins 143 4 = some (6, 5, 1, 0, []))
  have h : prun n3 143 5 [(1, .int w1), (0, .ref t)] [] σ = some x := h
  obtain ⟨n4, l4, h⟩ := v_al h (by decide +kernel : pins 143 5 = some (5, 6, 0, 0, [])) (v := t) rfl
  obtain ⟨n5, w6, l5, ⟨e6, i6⟩, h⟩ := u_ic h (by decide +kernel : pins 143 6 = some (0, 7, 0, 0, [])) (by decide)
  obtain ⟨n6, s7, l6, S7, u7, h⟩ := w_put (k := 2) W h (by decide +kernel : pins 143 7 = some (23, 10, 13, 2, [])) (by decide)
  obtain ⟨n7, l7, h⟩ := v_il h (by decide +kernel : pins 143 10 = some (3, 11, 1, 0, [])) (v := w1) rfl
  obtain ⟨n8, w11, l8, ⟨e11, i11⟩, h⟩ := u_ic h (by decide +kernel : pins 143 11 = some (0, 12, 1, 0, [])) (by decide)
  obtain ⟨n9, l9, ⟨c12, h⟩ | ⟨c12, h⟩⟩ := u_ic2 h (by decide +kernel : pins 143 12 = some (17, 15, 2, ((21 : Nat) : Int), []))
  · obtain ⟨n10, w21, l10, ⟨e21, i21⟩, h⟩ := u_ic h (by decide +kernel : pins 143 21 = some (0, 22, 0, 0, [])) (by decide)
    have ex := u_ret38 h (by decide +kernel : pins 143 22 = some (38, 23, 0, 0, []))
    subst ex
    exact ⟨_, rfl, S7, fun j q h1 h2 => by rw [u7, up_ne h2]⟩
  · obtain ⟨n12, l12, h⟩ := v_il h (by decide +kernel : pins 143 15 = some (3, 16, 1, 0, [])) (v := w1) rfl
    obtain ⟨n13, w16, l13, ⟨e16, i16⟩, h⟩ := u_ic h (by decide +kernel : pins 143 16 = some (0, 18, 15, 0, [])) (by decide)
    obtain ⟨n14, l14, ⟨c18, h⟩ | ⟨c18, h⟩⟩ := u_ic5 h (by decide +kernel : pins 143 18 = some (17, 21, 5, ((23 : Nat) : Int), []))
    · obtain ⟨n15, l15, h⟩ := v_al h (by decide +kernel : pins 143 23 = some (5, 24, 0, 0, [])) (v := t) rfl
      obtain ⟨n16, l16, h⟩ := w_row (k := 51) S7.1 h (by decide +kernel : pins 143 24 = some (22, 27, 13, 51, [])) (by decide)
      obtain ⟨n17, w27, l17, ⟨e27, i27⟩, h⟩ := u_ic h (by decide +kernel : pins 143 27 = some (0, 28, 0, 0, [])) (by decide)
      obtain ⟨n18, l18, h⟩ := v_il h (by decide +kernel : pins 143 28 = some (3, 29, 1, 0, [])) (v := w1) rfl
      obtain ⟨n19, s29, l19, b29, S29, u29, h⟩ := w_iast S7.1 h (by decide +kernel : pins 143 29 = some (28, 30, 0, 0, [])) (by decide)
      obtain ⟨n20, w30, l20, ⟨e30, i30⟩, h⟩ := u_ic h (by decide +kernel : pins 143 30 = some (0, 31, 1, 0, [])) (by decide)
      obtain ⟨n21, l21, h⟩ := v_is h (by decide +kernel : pins 143 31 = some (6, 32, 2, 0, []))
      have h : prun n21 143 32 [(2, .int w30), (1, .int w1), (0, .ref t)] [] s29 = some x := h
      obtain ⟨n22, w32, l22, ⟨e32, i32⟩, h⟩ := u_ic h (by decide +kernel : pins 143 32 = some (0, 33, 0, 0, [])) (by decide)
      obtain ⟨n23, l23, h⟩ := v_is h (by decide +kernel : pins 143 33 = some (6, 34, 3, 0, []))
      have h : prun n23 143 34 [(3, .int w32), (2, .int w30), (1, .int w1), (0, .ref t)] [] s29 = some x := h
      have h := prun_lv h (lv' := [(3, .int w32), (2, .int w30), (0, .ref t), (1, .int w1)]) (lvLe.cons (lvLe.cons (lvLe.cons (lvLe.cons lvLe.nil rfl) rfl) rfl) rfl) (by decide : ([3, 2, 1, 0] : List Nat).Nodup) (by decide : ([3, 2, 0, 1] : List Nat).Nodup)
      obtain ⟨w, y1, y2, y3⟩ := pc_tw_l _ _ _ _ x S29.1 trivial h
      exact ⟨w, y1, (S7.tr S29).tr y2, fun j q h1 h2 => (y3 j q h1).trans (by rw [u29, up_ne h1, u7, up_ne h2])⟩
    · obtain ⟨n24, w21, l24, ⟨e21, i21⟩, h⟩ := u_ic h (by decide +kernel : pins 143 21 = some (0, 22, 0, 0, [])) (by decide)
      have ex := u_ret38 h (by decide +kernel : pins 143 22 = some (38, 23, 0, 0, []))
      subst ex
      exact ⟨_, rfl, S7, fun j q h1 h2 => by rw [u7, up_ne h2]⟩
theorem pc_ask_l {t : Nat} {A : Nat → Nat} {hh sort is : Int32} : ∀ (n : Nat) (c : Int32) (σ : ps) (x : Option Value × ps), Wld t A σ → (True) → prun n 185 46 [(4, .int c), (3, .int is), (0, .ref t), (1, .int hh), (2, .int sort)] [] σ = some x → ∃ w : Int32, x.1 = some (.int w) ∧ SP t A σ x.2 ∧ Rok (vw t A σ) (vw t A x.2) := by
  intro n
  induction n using Nat.strongRecOn with
  | ind n ih =>
    intro c σ x W I h
    obtain ⟨n1, l1, h⟩ := v_il h (by decide +kernel : pins 185 46 = some (3, 48, 4, 0, [])) (v := c) rfl
    obtain ⟨n2, w48, l2, ⟨e48, i48⟩, h⟩ := u_ic h (by decide +kernel : pins 185 48 = some (0, 49, 4, 0, [])) (by decide)
    obtain ⟨n3, l3, ⟨c49, h⟩ | ⟨c49, h⟩⟩ := u_ic3 h (by decide +kernel : pins 185 49 = some (17, 52, 3, ((72 : Nat) : Int), []))
    · obtain ⟨n4, l4, h⟩ := v_il h (by decide +kernel : pins 185 72 = some (3, 74, 4, 0, [])) (v := c) rfl
      obtain ⟨n5, w74, l5, ⟨e74, i74⟩, h⟩ := u_ic h (by decide +kernel : pins 185 74 = some (0, 75, 4, 0, [])) (by decide)
      obtain ⟨n6, l6, ⟨c75, h⟩ | ⟨c75, h⟩⟩ := u_ic1 h (by decide +kernel : pins 185 75 = some (17, 78, 1, ((80 : Nat) : Int), []))
      · obtain ⟨n7, w80, l7, ⟨e80, i80⟩, h⟩ := u_ic h (by decide +kernel : pins 185 80 = some (0, 81, 4, 0, [])) (by decide)
        obtain ⟨n8, l8, h⟩ := v_il h (by decide +kernel : pins 185 81 = some (3, 82, 1, 0, [])) (v := hh) rfl
        obtain ⟨n9, w82, l9, e82, h⟩ := u_mul h (by decide +kernel : pins 185 82 = some (10, 83, 2, 0, []))
        obtain ⟨n10, l10, h⟩ := v_il h (by decide +kernel : pins 185 83 = some (3, 85, 4, 0, [])) (v := c) rfl
        obtain ⟨n11, w85, l11, e85, h⟩ := u_add h (by decide +kernel : pins 185 85 = some (10, 86, 0, 0, []))
        obtain ⟨n12, l12, h⟩ := v_is h (by decide +kernel : pins 185 86 = some (6, 88, 5, 0, []))
        have h : prun n12 185 88 [(5, .int w85), (4, .int c), (3, .int is), (0, .ref t), (1, .int hh), (2, .int sort)] [] σ = some x := h
        obtain ⟨n13, l13, h⟩ := v_al h (by decide +kernel : pins 185 88 = some (5, 89, 0, 0, [])) (v := t) rfl
        obtain ⟨n14, l14, h⟩ := w_row (k := 26) W h (by decide +kernel : pins 185 89 = some (22, 92, 13, 26, [])) (by decide)
        obtain ⟨n15, l15, h⟩ := v_il h (by decide +kernel : pins 185 92 = some (3, 94, 5, 0, [])) (v := w85) rfl
        obtain ⟨n16, l16, h⟩ := v_il h (by decide +kernel : pins 185 94 = some (3, 95, 2, 0, [])) (v := sort) rfl
        obtain ⟨n17, s95, l17, b95, S95, u95, h⟩ := w_iast W h (by decide +kernel : pins 185 95 = some (28, 96, 0, 0, [])) (by decide)
        obtain ⟨n18, l18, h⟩ := v_al h (by decide +kernel : pins 185 96 = some (5, 97, 0, 0, [])) (v := t) rfl
        obtain ⟨n19, l19, h⟩ := w_row (k := 51) S95.1 h (by decide +kernel : pins 185 97 = some (22, 100, 13, 51, [])) (by decide)
        obtain ⟨n20, w100, l20, ⟨e100, i100⟩, h⟩ := u_ic h (by decide +kernel : pins 185 100 = some (0, 101, 0, 0, [])) (by decide)
        obtain ⟨n21, l21, h⟩ := v_al h (by decide +kernel : pins 185 101 = some (5, 102, 0, 0, [])) (v := t) rfl
        obtain ⟨n22, l22, h⟩ := w_row (k := 25) S95.1 h (by decide +kernel : pins 185 102 = some (22, 105, 13, 25, [])) (by decide)
        obtain ⟨n23, w105, l23, ⟨e105, i105⟩, h⟩ := u_ic h (by decide +kernel : pins 185 105 = some (0, 107, 16, 0, [])) (by decide)
        obtain ⟨n24, l24, h⟩ := v_il h (by decide +kernel : pins 185 107 = some (3, 109, 5, 0, [])) (v := w85) rfl
        obtain ⟨n25, w109, l25, e109, h⟩ := u_mul h (by decide +kernel : pins 185 109 = some (10, 110, 2, 0, []))
        obtain ⟨n26, r110, s110, l26, h110, h⟩ := pinv_call h (by decide +kernel : pins 185 110 = some (36, 113, 142, 1, [4]))
        have h110 : prun n26 142 0 (lv_args 0 [.ref (A 51), .int w100, .ref (A 25), .int w109]) [] s95 = some (r110, s110) := h110
        obtain ⟨er110, S110, f110⟩ := pc_copy S95.1 h110 (by decide) (by decide)
        have er110 : r110 = none := er110
        subst er110
        try dsimp only at S110
        try dsimp only at f110
        have h : prun n26 185 113 [(5, .int w85), (4, .int c), (3, .int is), (0, .ref t), (1, .int hh), (2, .int sort)] [] s110 = some x := h
        obtain ⟨n27, l27, h⟩ := v_al h (by decide +kernel : pins 185 113 = some (5, 114, 0, 0, [])) (v := t) rfl
        obtain ⟨n28, l28, h⟩ := w_row (k := 27) S110.1 h (by decide +kernel : pins 185 114 = some (22, 117, 13, 27, [])) (by decide)
        obtain ⟨n29, l29, h⟩ := v_il h (by decide +kernel : pins 185 117 = some (3, 119, 5, 0, [])) (v := w85) rfl
        obtain ⟨n30, l30, h⟩ := v_al h (by decide +kernel : pins 185 119 = some (5, 120, 0, 0, [])) (v := t) rfl
        obtain ⟨n31, w120, l31, e120, h⟩ := w_fl S110.1 h (by decide +kernel : pins 185 120 = some (22, 123, 13, 0, []))
        obtain ⟨n32, w123, l32, e123, h⟩ := u_lc h (by decide +kernel : pins 185 123 = some (1, 126, 20, 0, []))
        have i123 : w123.toInt = 20 := by rw [e123]; decide
        obtain ⟨n33, w126, l33, e126, h⟩ := u_ladd h (by decide +kernel : pins 185 126 = some (11, 127, 0, 0, []))
        obtain ⟨n34, w127, l34, e127, h⟩ := u_lc h (by decide +kernel : pins 185 127 = some (1, 130, 11, 0, []))
        have i127 : w127.toInt = 11 := by rw [e127]; decide
        obtain ⟨n35, l35, h⟩ := v_al h (by decide +kernel : pins 185 130 = some (5, 131, 0, 0, [])) (v := t) rfl
        obtain ⟨n36, l36, h⟩ := w_row (k := 5) S110.1 h (by decide +kernel : pins 185 131 = some (22, 134, 13, 5, [])) (by decide)
        obtain ⟨n37, l37, h⟩ := v_il h (by decide +kernel : pins 185 134 = some (3, 135, 1, 0, [])) (v := hh) rfl
        obtain ⟨n38, w135, l38, b135, e135, h⟩ := w_iald S110.1 h (by decide +kernel : pins 185 135 = some (24, 136, 0, 0, [])) (by decide)
        obtain ⟨n39, w136, l39, e136, h⟩ := u_i2l h (by decide +kernel : pins 185 136 = some (13, 137, 0, 0, []))
        obtain ⟨n40, w137, l40, e137, h⟩ := u_lmul h (by decide +kernel : pins 185 137 = some (11, 138, 2, 0, []))
        obtain ⟨n41, w138, l41, e138, h⟩ := u_lc h (by decide +kernel : pins 185 138 = some (1, 141, 100, 0, []))
        have i138 : w138.toInt = 100 := by rw [e138]; decide
        obtain ⟨n42, w141, l42, e141, h⟩ := u_lrem h (by decide +kernel : pins 185 141 = some (11, 142, 4, 0, [])) (by rw [e138]; decide)
        obtain ⟨n43, w142, l43, e142, h⟩ := u_ladd h (by decide +kernel : pins 185 142 = some (11, 143, 0, 0, []))
        obtain ⟨n44, s143, l44, b143, S143, u143, h⟩ := w_last S110.1 h (by decide +kernel : pins 185 143 = some (30, 144, 0, 0, [])) (by decide)
        obtain ⟨n45, l45, h⟩ := v_al h (by decide +kernel : pins 185 144 = some (5, 145, 0, 0, [])) (v := t) rfl
        obtain ⟨n46, l46, h⟩ := w_row (k := 28) S143.1 h (by decide +kernel : pins 185 145 = some (22, 148, 13, 28, [])) (by decide)
        obtain ⟨n47, l47, h⟩ := v_il h (by decide +kernel : pins 185 148 = some (3, 150, 5, 0, [])) (v := w85) rfl
        obtain ⟨n48, w150, l48, ⟨e150, i150⟩, h⟩ := u_ic h (by decide +kernel : pins 185 150 = some (0, 153, 1000, 0, [])) (by decide)
        obtain ⟨n49, s153, l49, b153, S153, u153, h⟩ := w_iast S143.1 h (by decide +kernel : pins 185 153 = some (28, 154, 0, 0, [])) (by decide)
        obtain ⟨n50, l50, h⟩ := v_il h (by decide +kernel : pins 185 154 = some (3, 156, 4, 0, [])) (v := c) rfl
        have ex := u_ret38 h (by decide +kernel : pins 185 156 = some (38, 157, 0, 0, []))
        subst ex
        have f : ∀ j q, ¬ (25 ≤ j ∧ j ≤ 28) → vw t A s153 j q = vw t A σ j q := fun j q hj => by rw [u153, up_ne (by omega), u143, up_ne (by omega), f110 j q (by omega), u95, up_ne (by omega)]
        have g26 : ∀ q, ¬ q = w85.toNatClampNeg → gI (vw t A s153) 26 q = gI (vw t A σ) 26 q := fun q hq => by unfold gI; rw [u153, up_ne (by decide), u143, up_ne (by decide), f110 26 q (by decide), u95, up_ni (by decide) hq]
        have g28 : ∀ q, ¬ q = w85.toNatClampNeg → gI (vw t A s153) 28 q = gI (vw t A σ) 28 q := fun q hq => by unfold gI; rw [u153, up_ni (by decide) hq, u143, up_ne (by decide), f110 28 q (by decide), u95, up_ne (by decide)]
        refine ⟨_, rfl, (((S95.tr S110).tr S143).tr S153), fun w q hq s => ?_, fun e _ => e.of fun q => ⟨f 32 q (by omega), f 39 q (by omega)⟩, f 0 0 (by omega), ?_⟩
        · by_cases e : q = w85.toNatClampNeg
          · show 1000 ≤ (gI (vw t A s153) 28 q).toInt
            rw [e, u153, gI_eq, i150]; decide
          · have s : 0 < (gI (vw t A s153) 26 q).toInt := s
            rw [g26 q e] at s
            show 1000 ≤ (gI (vw t A s153) 28 q).toInt
            rw [g28 q e]; exact w q hq s
        · show rg w2 (vw t A s153) ≤ _
          rw [rg_fr (f 46 0 (by omega)) (f 47 0 (by omega)) (fun q => f 42 q (by omega))]; omega
      · obtain ⟨n52, w78, l52, ⟨e78, i78⟩, h⟩ := u_ic h (by decide +kernel : pins 185 78 = some (0, 79, (-1), 0, [])) (by decide)
        have ex := u_ret38 h (by decide +kernel : pins 185 79 = some (38, 80, 0, 0, []))
        subst ex
        exact ⟨_, rfl, SP.rf W, Rok.fr (fun _ _ _ => rfl) Zr.rf Zr.rf⟩
    · obtain ⟨n54, l54, h⟩ := v_al h (by decide +kernel : pins 185 52 = some (5, 53, 0, 0, [])) (v := t) rfl
      obtain ⟨n55, l55, h⟩ := w_row (k := 26) W h (by decide +kernel : pins 185 53 = some (22, 56, 13, 26, [])) (by decide)
      obtain ⟨n56, w56, l56, ⟨e56, i56⟩, h⟩ := u_ic h (by decide +kernel : pins 185 56 = some (0, 57, 4, 0, [])) (by decide)
      obtain ⟨n57, l57, h⟩ := v_il h (by decide +kernel : pins 185 57 = some (3, 58, 1, 0, [])) (v := hh) rfl
      obtain ⟨n58, w58, l58, e58, h⟩ := u_mul h (by decide +kernel : pins 185 58 = some (10, 59, 2, 0, []))
      obtain ⟨n59, l59, h⟩ := v_il h (by decide +kernel : pins 185 59 = some (3, 61, 4, 0, [])) (v := c) rfl
      obtain ⟨n60, w61, l60, e61, h⟩ := u_add h (by decide +kernel : pins 185 61 = some (10, 62, 0, 0, []))
      obtain ⟨n61, w62, l61, b62, e62, h⟩ := w_iald W h (by decide +kernel : pins 185 62 = some (24, 63, 0, 0, [])) (by decide)
      obtain ⟨n62, l62, ⟨c63, h⟩ | ⟨c63, h⟩⟩ := u_if5 h (by decide +kernel : pins 185 63 = some (16, 66, 5, ((72 : Nat) : Int), []))
      · obtain ⟨n63, l63, h⟩ := v_il h (by decide +kernel : pins 185 72 = some (3, 74, 4, 0, [])) (v := c) rfl
        obtain ⟨n64, w74, l64, ⟨e74, i74⟩, h⟩ := u_ic h (by decide +kernel : pins 185 74 = some (0, 75, 4, 0, [])) (by decide)
        obtain ⟨n65, l65, ⟨c75, h⟩ | ⟨c75, h⟩⟩ := u_ic1 h (by decide +kernel : pins 185 75 = some (17, 78, 1, ((80 : Nat) : Int), []))
        · obtain ⟨n66, w80, l66, ⟨e80, i80⟩, h⟩ := u_ic h (by decide +kernel : pins 185 80 = some (0, 81, 4, 0, [])) (by decide)
          obtain ⟨n67, l67, h⟩ := v_il h (by decide +kernel : pins 185 81 = some (3, 82, 1, 0, [])) (v := hh) rfl
          obtain ⟨n68, w82, l68, e82, h⟩ := u_mul h (by decide +kernel : pins 185 82 = some (10, 83, 2, 0, []))
          obtain ⟨n69, l69, h⟩ := v_il h (by decide +kernel : pins 185 83 = some (3, 85, 4, 0, [])) (v := c) rfl
          obtain ⟨n70, w85, l70, e85, h⟩ := u_add h (by decide +kernel : pins 185 85 = some (10, 86, 0, 0, []))
          obtain ⟨n71, l71, h⟩ := v_is h (by decide +kernel : pins 185 86 = some (6, 88, 5, 0, []))
          have h : prun n71 185 88 [(5, .int w85), (4, .int c), (3, .int is), (0, .ref t), (1, .int hh), (2, .int sort)] [] σ = some x := h
          obtain ⟨n72, l72, h⟩ := v_al h (by decide +kernel : pins 185 88 = some (5, 89, 0, 0, [])) (v := t) rfl
          obtain ⟨n73, l73, h⟩ := w_row (k := 26) W h (by decide +kernel : pins 185 89 = some (22, 92, 13, 26, [])) (by decide)
          obtain ⟨n74, l74, h⟩ := v_il h (by decide +kernel : pins 185 92 = some (3, 94, 5, 0, [])) (v := w85) rfl
          obtain ⟨n75, l75, h⟩ := v_il h (by decide +kernel : pins 185 94 = some (3, 95, 2, 0, [])) (v := sort) rfl
          obtain ⟨n76, s95, l76, b95, S95, u95, h⟩ := w_iast W h (by decide +kernel : pins 185 95 = some (28, 96, 0, 0, [])) (by decide)
          obtain ⟨n77, l77, h⟩ := v_al h (by decide +kernel : pins 185 96 = some (5, 97, 0, 0, [])) (v := t) rfl
          obtain ⟨n78, l78, h⟩ := w_row (k := 51) S95.1 h (by decide +kernel : pins 185 97 = some (22, 100, 13, 51, [])) (by decide)
          obtain ⟨n79, w100, l79, ⟨e100, i100⟩, h⟩ := u_ic h (by decide +kernel : pins 185 100 = some (0, 101, 0, 0, [])) (by decide)
          obtain ⟨n80, l80, h⟩ := v_al h (by decide +kernel : pins 185 101 = some (5, 102, 0, 0, [])) (v := t) rfl
          obtain ⟨n81, l81, h⟩ := w_row (k := 25) S95.1 h (by decide +kernel : pins 185 102 = some (22, 105, 13, 25, [])) (by decide)
          obtain ⟨n82, w105, l82, ⟨e105, i105⟩, h⟩ := u_ic h (by decide +kernel : pins 185 105 = some (0, 107, 16, 0, [])) (by decide)
          obtain ⟨n83, l83, h⟩ := v_il h (by decide +kernel : pins 185 107 = some (3, 109, 5, 0, [])) (v := w85) rfl
          obtain ⟨n84, w109, l84, e109, h⟩ := u_mul h (by decide +kernel : pins 185 109 = some (10, 110, 2, 0, []))
          obtain ⟨n85, r110, s110, l85, h110, h⟩ := pinv_call h (by decide +kernel : pins 185 110 = some (36, 113, 142, 1, [4]))
          have h110 : prun n85 142 0 (lv_args 0 [.ref (A 51), .int w100, .ref (A 25), .int w109]) [] s95 = some (r110, s110) := h110
          obtain ⟨er110, S110, f110⟩ := pc_copy S95.1 h110 (by decide) (by decide)
          have er110 : r110 = none := er110
          subst er110
          try dsimp only at S110
          try dsimp only at f110
          have h : prun n85 185 113 [(5, .int w85), (4, .int c), (3, .int is), (0, .ref t), (1, .int hh), (2, .int sort)] [] s110 = some x := h
          obtain ⟨n86, l86, h⟩ := v_al h (by decide +kernel : pins 185 113 = some (5, 114, 0, 0, [])) (v := t) rfl
          obtain ⟨n87, l87, h⟩ := w_row (k := 27) S110.1 h (by decide +kernel : pins 185 114 = some (22, 117, 13, 27, [])) (by decide)
          obtain ⟨n88, l88, h⟩ := v_il h (by decide +kernel : pins 185 117 = some (3, 119, 5, 0, [])) (v := w85) rfl
          obtain ⟨n89, l89, h⟩ := v_al h (by decide +kernel : pins 185 119 = some (5, 120, 0, 0, [])) (v := t) rfl
          obtain ⟨n90, w120, l90, e120, h⟩ := w_fl S110.1 h (by decide +kernel : pins 185 120 = some (22, 123, 13, 0, []))
          obtain ⟨n91, w123, l91, e123, h⟩ := u_lc h (by decide +kernel : pins 185 123 = some (1, 126, 20, 0, []))
          have i123 : w123.toInt = 20 := by rw [e123]; decide
          obtain ⟨n92, w126, l92, e126, h⟩ := u_ladd h (by decide +kernel : pins 185 126 = some (11, 127, 0, 0, []))
          obtain ⟨n93, w127, l93, e127, h⟩ := u_lc h (by decide +kernel : pins 185 127 = some (1, 130, 11, 0, []))
          have i127 : w127.toInt = 11 := by rw [e127]; decide
          obtain ⟨n94, l94, h⟩ := v_al h (by decide +kernel : pins 185 130 = some (5, 131, 0, 0, [])) (v := t) rfl
          obtain ⟨n95, l95, h⟩ := w_row (k := 5) S110.1 h (by decide +kernel : pins 185 131 = some (22, 134, 13, 5, [])) (by decide)
          obtain ⟨n96, l96, h⟩ := v_il h (by decide +kernel : pins 185 134 = some (3, 135, 1, 0, [])) (v := hh) rfl
          obtain ⟨n97, w135, l97, b135, e135, h⟩ := w_iald S110.1 h (by decide +kernel : pins 185 135 = some (24, 136, 0, 0, [])) (by decide)
          obtain ⟨n98, w136, l98, e136, h⟩ := u_i2l h (by decide +kernel : pins 185 136 = some (13, 137, 0, 0, []))
          obtain ⟨n99, w137, l99, e137, h⟩ := u_lmul h (by decide +kernel : pins 185 137 = some (11, 138, 2, 0, []))
          obtain ⟨n100, w138, l100, e138, h⟩ := u_lc h (by decide +kernel : pins 185 138 = some (1, 141, 100, 0, []))
          have i138 : w138.toInt = 100 := by rw [e138]; decide
          obtain ⟨n101, w141, l101, e141, h⟩ := u_lrem h (by decide +kernel : pins 185 141 = some (11, 142, 4, 0, [])) (by rw [e138]; decide)
          obtain ⟨n102, w142, l102, e142, h⟩ := u_ladd h (by decide +kernel : pins 185 142 = some (11, 143, 0, 0, []))
          obtain ⟨n103, s143, l103, b143, S143, u143, h⟩ := w_last S110.1 h (by decide +kernel : pins 185 143 = some (30, 144, 0, 0, [])) (by decide)
          obtain ⟨n104, l104, h⟩ := v_al h (by decide +kernel : pins 185 144 = some (5, 145, 0, 0, [])) (v := t) rfl
          obtain ⟨n105, l105, h⟩ := w_row (k := 28) S143.1 h (by decide +kernel : pins 185 145 = some (22, 148, 13, 28, [])) (by decide)
          obtain ⟨n106, l106, h⟩ := v_il h (by decide +kernel : pins 185 148 = some (3, 150, 5, 0, [])) (v := w85) rfl
          obtain ⟨n107, w150, l107, ⟨e150, i150⟩, h⟩ := u_ic h (by decide +kernel : pins 185 150 = some (0, 153, 1000, 0, [])) (by decide)
          obtain ⟨n108, s153, l108, b153, S153, u153, h⟩ := w_iast S143.1 h (by decide +kernel : pins 185 153 = some (28, 154, 0, 0, [])) (by decide)
          obtain ⟨n109, l109, h⟩ := v_il h (by decide +kernel : pins 185 154 = some (3, 156, 4, 0, [])) (v := c) rfl
          have ex := u_ret38 h (by decide +kernel : pins 185 156 = some (38, 157, 0, 0, []))
          subst ex
          have f : ∀ j q, ¬ (25 ≤ j ∧ j ≤ 28) → vw t A s153 j q = vw t A σ j q := fun j q hj => by rw [u153, up_ne (by omega), u143, up_ne (by omega), f110 j q (by omega), u95, up_ne (by omega)]
          have g26 : ∀ q, ¬ q = w85.toNatClampNeg → gI (vw t A s153) 26 q = gI (vw t A σ) 26 q := fun q hq => by unfold gI; rw [u153, up_ne (by decide), u143, up_ne (by decide), f110 26 q (by decide), u95, up_ni (by decide) hq]
          have g28 : ∀ q, ¬ q = w85.toNatClampNeg → gI (vw t A s153) 28 q = gI (vw t A σ) 28 q := fun q hq => by unfold gI; rw [u153, up_ni (by decide) hq, u143, up_ne (by decide), f110 28 q (by decide), u95, up_ne (by decide)]
          refine ⟨_, rfl, (((S95.tr S110).tr S143).tr S153), fun w q hq s => ?_, fun e _ => e.of fun q => ⟨f 32 q (by omega), f 39 q (by omega)⟩, f 0 0 (by omega), ?_⟩
          · by_cases e : q = w85.toNatClampNeg
            · show 1000 ≤ (gI (vw t A s153) 28 q).toInt
              rw [e, u153, gI_eq, i150]; decide
            · have s : 0 < (gI (vw t A s153) 26 q).toInt := s
              rw [g26 q e] at s
              show 1000 ≤ (gI (vw t A s153) 28 q).toInt
              rw [g28 q e]; exact w q hq s
          · show rg w2 (vw t A s153) ≤ _
            rw [rg_fr (f 46 0 (by omega)) (f 47 0 (by omega)) (fun q => f 42 q (by omega))]; omega
        · obtain ⟨n111, w78, l111, ⟨e78, i78⟩, h⟩ := u_ic h (by decide +kernel : pins 185 78 = some (0, 79, (-1), 0, [])) (by decide)
          have ex := u_ret38 h (by decide +kernel : pins 185 79 = some (38, 80, 0, 0, []))
          subst ex
          exact ⟨_, rfl, SP.rf W, Rok.fr (fun _ _ _ => rfl) Zr.rf Zr.rf⟩
      · obtain ⟨n113, w66, l113, e66, h⟩ := u_inc h (by decide +kernel : pins 185 66 = some (9, 69, 4, 1, [])) (v := c) rfl
        have h : prun n113 185 69 [(4, .int w66), (3, .int is), (0, .ref t), (1, .int hh), (2, .int sort)] [] σ = some x := h
        obtain ⟨n114, l114, h⟩ := u_go h (by decide +kernel : pins 185 69 = some (20, 72, 0, ((46 : Nat) : Int), []))
        have h := prun_lv h (lv' := [(4, .int w66), (3, .int is), (0, .ref t), (1, .int hh), (2, .int sort)]) (lvLe.cons (lvLe.cons (lvLe.cons (lvLe.cons (lvLe.cons lvLe.nil rfl) rfl) rfl) rfl) rfl) (by decide : ([4, 3, 0, 1, 2] : List Nat).Nodup) (by decide : ([4, 3, 0, 1, 2] : List Nat).Nodup)
        exact ih n114 (by omega) _ _ x W trivial h
theorem pc_ask {t n : Nat} {A : Nat → Nat} {hh sort : Int32} {σ : ps} {x : Option Value × ps} (W : Wld t A σ) (h : prun n 185 0 (lv_args 0 [.ref t, .int hh, .int sort]) [] σ = some x) : ∃ w : Int32, x.1 = some (.int w) ∧ SP t A σ x.2 ∧ Rok (vw t A σ) (vw t A x.2) := by
  have h : prun n 185 0 [(0, .ref t), (1, .int hh), (2, .int sort)] [] σ = some x := h
  obtain ⟨n1, l1, h⟩ := v_al h (by decide +kernel : pins 185 0 = some (5, 1, 0, 0, [])) (v := t) rfl
  obtain ⟨n2, w1, l2, ⟨e1, i1⟩, h⟩ := u_ic h (by decide +kernel : pins 185 1 = some (0, 2, 0, 0, [])) (by decide)
  obtain ⟨n3, s2, l3, S2, u2, h⟩ := w_put (k := 3) W h (by decide +kernel : pins 185 2 = some (23, 5, 13, 3, [])) (by decide)
  obtain ⟨n4, l4, h⟩ := v_al h (by decide +kernel : pins 185 5 = some (5, 6, 0, 0, [])) (v := t) rfl
  obtain ⟨n5, r6, s6, l5, h6, h⟩ := pinv_call h (by decide +kernel : pins 185 6 = some (36, 9, 143, 0, [1]))
  have h6 : prun n5 143 0 (lv_args 0 [.ref t]) [] s2 = some (r6, s6) := h6
  obtain ⟨w6, er6, S6, f6⟩ := pc_takesWord S2.1 h6
  have er6 : r6 = some (.int w6) := er6
  subst er6
  try dsimp only at S6
  try dsimp only at f6
  have h : prun n5 185 9 [(0, .ref t), (1, .int hh), (2, .int sort)] [.int w6] s6 = some x := h
  obtain ⟨n6, l6, h⟩ := v_is h (by decide +kernel : pins 185 9 = some (6, 10, 3, 0, []))
  have h : prun n6 185 10 [(3, .int w6), (0, .ref t), (1, .int hh), (2, .int sort)] [] s6 = some x := h
  obtain ⟨n7, l7, h⟩ := v_al h (by decide +kernel : pins 185 10 = some (5, 11, 0, 0, [])) (v := t) rfl
  obtain ⟨n8, l8, h⟩ := v_il h (by decide +kernel : pins 185 11 = some (3, 12, 1, 0, [])) (v := hh) rfl
  obtain ⟨n9, r12, s12, l9, h12, h⟩ := pinv_call h (by decide +kernel : pins 185 12 = some (36, 15, 179, 0, [2]))
  have h12 : prun n9 179 0 (lv_args 0 [.ref t, .int hh]) [] s6 = some (r12, s12) := h12
  obtain ⟨es12, w12, er12, f12⟩ := pc_isHost S6.1 h12
  have er12 : r12 = some (.int w12) := er12
  have et12 : s12 = s6 := es12
  rw [et12] at h
  subst er12
  have h : prun n9 185 15 [(3, .int w6), (0, .ref t), (1, .int hh), (2, .int sort)] [.int w12] s6 = some x := h
  obtain ⟨n10, l10, ⟨c15, h⟩ | ⟨c15, h⟩⟩ := u_if0 h (by decide +kernel : pins 185 15 = some (16, 18, 0, ((41 : Nat) : Int), []))
  · obtain ⟨n11, w41, l11, ⟨e41, i41⟩, h⟩ := u_ic h (by decide +kernel : pins 185 41 = some (0, 42, (-1), 0, [])) (by decide)
    have ex := u_ret38 h (by decide +kernel : pins 185 42 = some (38, 43, 0, 0, []))
    subst ex
    have f : ∀ j q, ¬ j = 51 → ¬ j = 2 → ¬ j = 3 → vw t A s6 j q = vw t A σ j q := fun j q h1 h2 h3 => by rw [f6 j q h1 h2, u2, up_ne h3]
    exact ⟨_, rfl, (S2.tr S6), Rok.fr (fun j q hj => f j q (by omega) (by omega) (by omega)) (Zr.of fun q => f 26 q (by omega) (by omega) (by omega)) (Zr.of fun q => f 32 q (by omega) (by omega) (by omega))⟩
  · obtain ⟨n13, l13, h⟩ := v_al h (by decide +kernel : pins 185 18 = some (5, 19, 0, 0, [])) (v := t) rfl
    obtain ⟨n14, l14, h⟩ := w_row (k := 4) S6.1 h (by decide +kernel : pins 185 19 = some (22, 22, 13, 4, [])) (by decide)
    obtain ⟨n15, l15, h⟩ := v_il h (by decide +kernel : pins 185 22 = some (3, 23, 1, 0, [])) (v := hh) rfl
    obtain ⟨n16, w23, l16, b23, e23, h⟩ := w_bald S6.1 h (by decide +kernel : pins 185 23 = some (25, 24, 0, 0, [])) (by decide)
    obtain ⟨n17, l17, ⟨c24, h⟩ | ⟨c24, h⟩⟩ := u_if0 h (by decide +kernel : pins 185 24 = some (16, 27, 0, ((41 : Nat) : Int), []))
    · obtain ⟨n18, w41, l18, ⟨e41, i41⟩, h⟩ := u_ic h (by decide +kernel : pins 185 41 = some (0, 42, (-1), 0, [])) (by decide)
      have ex := u_ret38 h (by decide +kernel : pins 185 42 = some (38, 43, 0, 0, []))
      subst ex
      have f : ∀ j q, ¬ j = 51 → ¬ j = 2 → ¬ j = 3 → vw t A s6 j q = vw t A σ j q := fun j q h1 h2 h3 => by rw [f6 j q h1 h2, u2, up_ne h3]
      exact ⟨_, rfl, (S2.tr S6), Rok.fr (fun j q hj => f j q (by omega) (by omega) (by omega)) (Zr.of fun q => f 26 q (by omega) (by omega) (by omega)) (Zr.of fun q => f 32 q (by omega) (by omega) (by omega))⟩
    · obtain ⟨n20, l20, h⟩ := v_il h (by decide +kernel : pins 185 27 = some (3, 28, 2, 0, [])) (v := sort) rfl
      obtain ⟨n21, w28, l21, ⟨e28, i28⟩, h⟩ := u_ic h (by decide +kernel : pins 185 28 = some (0, 29, 1, 0, [])) (by decide)
      obtain ⟨n22, l22, ⟨c29, h⟩ | ⟨c29, h⟩⟩ := u_ic2 h (by decide +kernel : pins 185 29 = some (17, 32, 2, ((41 : Nat) : Int), []))
      · obtain ⟨n23, w41, l23, ⟨e41, i41⟩, h⟩ := u_ic h (by decide +kernel : pins 185 41 = some (0, 42, (-1), 0, [])) (by decide)
        have ex := u_ret38 h (by decide +kernel : pins 185 42 = some (38, 43, 0, 0, []))
        subst ex
        have f : ∀ j q, ¬ j = 51 → ¬ j = 2 → ¬ j = 3 → vw t A s6 j q = vw t A σ j q := fun j q h1 h2 h3 => by rw [f6 j q h1 h2, u2, up_ne h3]
        exact ⟨_, rfl, (S2.tr S6), Rok.fr (fun j q hj => f j q (by omega) (by omega) (by omega)) (Zr.of fun q => f 26 q (by omega) (by omega) (by omega)) (Zr.of fun q => f 32 q (by omega) (by omega) (by omega))⟩
      · obtain ⟨n25, l25, h⟩ := v_il h (by decide +kernel : pins 185 32 = some (3, 33, 2, 0, [])) (v := sort) rfl
        obtain ⟨n26, w33, l26, ⟨e33, i33⟩, h⟩ := u_ic h (by decide +kernel : pins 185 33 = some (0, 34, 2, 0, [])) (by decide)
        obtain ⟨n27, l27, ⟨c34, h⟩ | ⟨c34, h⟩⟩ := u_ic4 h (by decide +kernel : pins 185 34 = some (17, 37, 4, ((41 : Nat) : Int), []))
        · obtain ⟨n28, w41, l28, ⟨e41, i41⟩, h⟩ := u_ic h (by decide +kernel : pins 185 41 = some (0, 42, (-1), 0, [])) (by decide)
          have ex := u_ret38 h (by decide +kernel : pins 185 42 = some (38, 43, 0, 0, []))
          subst ex
          have f : ∀ j q, ¬ j = 51 → ¬ j = 2 → ¬ j = 3 → vw t A s6 j q = vw t A σ j q := fun j q h1 h2 h3 => by rw [f6 j q h1 h2, u2, up_ne h3]
          exact ⟨_, rfl, (S2.tr S6), Rok.fr (fun j q hj => f j q (by omega) (by omega) (by omega)) (Zr.of fun q => f 26 q (by omega) (by omega) (by omega)) (Zr.of fun q => f 32 q (by omega) (by omega) (by omega))⟩
        · obtain ⟨n30, l30, h⟩ := v_il h (by decide +kernel : pins 185 37 = some (3, 38, 3, 0, [])) (v := w6) rfl
          obtain ⟨n31, l31, ⟨c38, h⟩ | ⟨c38, h⟩⟩ := u_if1 h (by decide +kernel : pins 185 38 = some (16, 41, 1, ((43 : Nat) : Int), []))
          · obtain ⟨n32, w43, l32, ⟨e43, i43⟩, h⟩ := u_ic h (by decide +kernel : pins 185 43 = some (0, 44, 0, 0, [])) (by decide)
            obtain ⟨n33, l33, h⟩ := v_is h (by decide +kernel : pins 185 44 = some (6, 46, 4, 0, []))
            have h : prun n33 185 46 [(4, .int w43), (3, .int w6), (0, .ref t), (1, .int hh), (2, .int sort)] [] s6 = some x := h
            have h := prun_lv h (lv' := [(4, .int w43), (3, .int w6), (0, .ref t), (1, .int hh), (2, .int sort)]) (lvLe.cons (lvLe.cons (lvLe.cons (lvLe.cons (lvLe.cons lvLe.nil rfl) rfl) rfl) rfl) rfl) (by decide : ([4, 3, 0, 1, 2] : List Nat).Nodup) (by decide : ([4, 3, 0, 1, 2] : List Nat).Nodup)
            have f : ∀ j q, ¬ j = 51 → ¬ j = 2 → ¬ j = 3 → vw t A s6 j q = vw t A σ j q := fun j q h1 h2 h3 => by rw [f6 j q h1 h2, u2, up_ne h3]
            obtain ⟨w, y1, y2, y3⟩ := pc_ask_l _ _ _ x S6.1 trivial h
            exact ⟨w, y1, (S2.tr S6).tr y2, Rok.pre (fun j q hj => f j q (by omega) (by omega) (by omega)) y3⟩
          · obtain ⟨n34, w41, l34, ⟨e41, i41⟩, h⟩ := u_ic h (by decide +kernel : pins 185 41 = some (0, 42, (-1), 0, [])) (by decide)
            have ex := u_ret38 h (by decide +kernel : pins 185 42 = some (38, 43, 0, 0, []))
            subst ex
            have f : ∀ j q, ¬ j = 51 → ¬ j = 2 → ¬ j = 3 → vw t A s6 j q = vw t A σ j q := fun j q h1 h2 h3 => by rw [f6 j q h1 h2, u2, up_ne h3]
            exact ⟨_, rfl, (S2.tr S6), Rok.fr (fun j q hj => f j q (by omega) (by omega) (by omega)) (Zr.of fun q => f 26 q (by omega) (by omega) (by omega)) (Zr.of fun q => f 32 q (by omega) (by omega) (by omega))⟩
theorem pc_isOpen {t n : Nat} {A : Nat → Nat} {hh qq : Int32} {σ : ps} {x : Option Value × ps} (W : Wld t A σ) (h : prun n 186 0 (lv_args 0 [.ref t, .int hh, .int qq]) [] σ = some x) : x.2 = σ ∧ ∃ w : Int32, x.1 = some (.int w) ∧ True := by
  have h : prun n 186 0 [(0, .ref t), (1, .int hh), (2, .int qq)] [] σ = some x := h
  obtain ⟨n1, l1, h⟩ := v_al h (by decide +kernel : pins 186 0 = some (5, 1, 0, 0, [])) (v := t) rfl
  obtain ⟨n2, l2, h⟩ := v_il h (by decide +kernel : pins 186 1 = some (3, 2, 1, 0, [])) (v := hh) rfl
  obtain ⟨n3, r2, s2, l3, h2, h⟩ := pinv_call h (by decide +kernel : pins 186 2 = some (36, 5, 179, 0, [2]))
  have h2 : prun n3 179 0 (lv_args 0 [.ref t, .int hh]) [] σ = some (r2, s2) := h2
  obtain ⟨es2, w2, er2, f2⟩ := pc_isHost W h2
  have er2 : r2 = some (.int w2) := er2
  have et2 : s2 = σ := es2
  rw [et2] at h
  subst er2
  have h : prun n3 186 5 [(0, .ref t), (1, .int hh), (2, .int qq)] [.int w2] σ = some x := h
  obtain ⟨n4, l4, ⟨c5, h⟩ | ⟨c5, h⟩⟩ := u_if0 h (by decide +kernel : pins 186 5 = some (16, 8, 0, ((43 : Nat) : Int), []))
  · obtain ⟨n5, w43, l5, ⟨e43, i43⟩, h⟩ := u_ic h (by decide +kernel : pins 186 43 = some (0, 44, 0, 0, [])) (by decide)
    have ex := u_ret38 h (by decide +kernel : pins 186 44 = some (38, 45, 0, 0, []))
    subst ex
    exact ⟨rfl, _, rfl, trivial⟩
  · obtain ⟨n7, l7, h⟩ := v_al h (by decide +kernel : pins 186 8 = some (5, 9, 0, 0, [])) (v := t) rfl
    obtain ⟨n8, l8, h⟩ := w_row (k := 4) W h (by decide +kernel : pins 186 9 = some (22, 12, 13, 4, [])) (by decide)
    obtain ⟨n9, l9, h⟩ := v_il h (by decide +kernel : pins 186 12 = some (3, 13, 1, 0, [])) (v := hh) rfl
    obtain ⟨n10, w13, l10, b13, e13, h⟩ := w_bald W h (by decide +kernel : pins 186 13 = some (25, 14, 0, 0, [])) (by decide)
    obtain ⟨n11, l11, ⟨c14, h⟩ | ⟨c14, h⟩⟩ := u_if0 h (by decide +kernel : pins 186 14 = some (16, 17, 0, ((43 : Nat) : Int), []))
    · obtain ⟨n12, w43, l12, ⟨e43, i43⟩, h⟩ := u_ic h (by decide +kernel : pins 186 43 = some (0, 44, 0, 0, [])) (by decide)
      have ex := u_ret38 h (by decide +kernel : pins 186 44 = some (38, 45, 0, 0, []))
      subst ex
      exact ⟨rfl, _, rfl, trivial⟩
    · obtain ⟨n14, l14, h⟩ := v_il h (by decide +kernel : pins 186 17 = some (3, 18, 2, 0, [])) (v := qq) rfl
      obtain ⟨n15, l15, ⟨c18, h⟩ | ⟨c18, h⟩⟩ := u_if2 h (by decide +kernel : pins 186 18 = some (16, 21, 2, ((43 : Nat) : Int), []))
      · obtain ⟨n16, w43, l16, ⟨e43, i43⟩, h⟩ := u_ic h (by decide +kernel : pins 186 43 = some (0, 44, 0, 0, [])) (by decide)
        have ex := u_ret38 h (by decide +kernel : pins 186 44 = some (38, 45, 0, 0, []))
        subst ex
        exact ⟨rfl, _, rfl, trivial⟩
      · obtain ⟨n18, l18, h⟩ := v_il h (by decide +kernel : pins 186 21 = some (3, 22, 2, 0, [])) (v := qq) rfl
        obtain ⟨n19, w22, l19, ⟨e22, i22⟩, h⟩ := u_ic h (by decide +kernel : pins 186 22 = some (0, 23, 4, 0, [])) (by decide)
        obtain ⟨n20, l20, ⟨c23, h⟩ | ⟨c23, h⟩⟩ := u_ic3 h (by decide +kernel : pins 186 23 = some (17, 26, 3, ((43 : Nat) : Int), []))
        · obtain ⟨n21, w43, l21, ⟨e43, i43⟩, h⟩ := u_ic h (by decide +kernel : pins 186 43 = some (0, 44, 0, 0, [])) (by decide)
          have ex := u_ret38 h (by decide +kernel : pins 186 44 = some (38, 45, 0, 0, []))
          subst ex
          exact ⟨rfl, _, rfl, trivial⟩
        · obtain ⟨n23, l23, h⟩ := v_al h (by decide +kernel : pins 186 26 = some (5, 27, 0, 0, [])) (v := t) rfl
          obtain ⟨n24, l24, h⟩ := w_row (k := 26) W h (by decide +kernel : pins 186 27 = some (22, 30, 13, 26, [])) (by decide)
          obtain ⟨n25, w30, l25, ⟨e30, i30⟩, h⟩ := u_ic h (by decide +kernel : pins 186 30 = some (0, 31, 4, 0, [])) (by decide)
          obtain ⟨n26, l26, h⟩ := v_il h (by decide +kernel : pins 186 31 = some (3, 32, 1, 0, [])) (v := hh) rfl
          obtain ⟨n27, w32, l27, e32, h⟩ := u_mul h (by decide +kernel : pins 186 32 = some (10, 33, 2, 0, []))
          obtain ⟨n28, l28, h⟩ := v_il h (by decide +kernel : pins 186 33 = some (3, 34, 2, 0, [])) (v := qq) rfl
          obtain ⟨n29, w34, l29, e34, h⟩ := u_add h (by decide +kernel : pins 186 34 = some (10, 35, 0, 0, []))
          obtain ⟨n30, w35, l30, b35, e35, h⟩ := w_iald W h (by decide +kernel : pins 186 35 = some (24, 36, 0, 0, [])) (by decide)
          obtain ⟨n31, l31, ⟨c36, h⟩ | ⟨c36, h⟩⟩ := u_if5 h (by decide +kernel : pins 186 36 = some (16, 39, 5, ((43 : Nat) : Int), []))
          · obtain ⟨n32, w43, l32, ⟨e43, i43⟩, h⟩ := u_ic h (by decide +kernel : pins 186 43 = some (0, 44, 0, 0, [])) (by decide)
            have ex := u_ret38 h (by decide +kernel : pins 186 44 = some (38, 45, 0, 0, []))
            subst ex
            exact ⟨rfl, _, rfl, trivial⟩
          · obtain ⟨n34, w39, l34, ⟨e39, i39⟩, h⟩ := u_ic h (by decide +kernel : pins 186 39 = some (0, 40, 1, 0, [])) (by decide)
            obtain ⟨n35, l35, h⟩ := u_go h (by decide +kernel : pins 186 40 = some (20, 43, 0, ((44 : Nat) : Int), []))
            have ex := u_ret38 h (by decide +kernel : pins 186 44 = some (38, 45, 0, 0, []))
            subst ex
            exact ⟨rfl, _, rfl, trivial⟩
theorem pc_close {t n : Nat} {A : Nat → Nat} {hh qq : Int32} {σ : ps} {x : Option Value × ps} (W : Wld t A σ) (h : prun n 187 0 (lv_args 0 [.ref t, .int hh, .int qq]) [] σ = some x) : ∃ w : Int32, x.1 = some (.int w) ∧ SP t A σ x.2 ∧ Rok (vw t A σ) (vw t A x.2) := by
  have h : prun n 187 0 [(0, .ref t), (1, .int hh), (2, .int qq)] [] σ = some x := h
  obtain ⟨n1, l1, h⟩ := v_al h (by decide +kernel : pins 187 0 = some (5, 1, 0, 0, [])) (v := t) rfl
  obtain ⟨n2, w1, l2, ⟨e1, i1⟩, h⟩ := u_ic h (by decide +kernel : pins 187 1 = some (0, 2, 0, 0, [])) (by decide)
  obtain ⟨n3, s2, l3, S2, u2, h⟩ := w_put (k := 3) W h (by decide +kernel : pins 187 2 = some (23, 5, 13, 3, [])) (by decide)
  obtain ⟨n4, l4, h⟩ := v_al h (by decide +kernel : pins 187 5 = some (5, 6, 0, 0, [])) (v := t) rfl
  obtain ⟨n5, l5, h⟩ := v_il h (by decide +kernel : pins 187 6 = some (3, 7, 1, 0, [])) (v := hh) rfl
  obtain ⟨n6, l6, h⟩ := v_il h (by decide +kernel : pins 187 7 = some (3, 8, 2, 0, [])) (v := qq) rfl
  obtain ⟨n7, r8, s8, l7, h8, h⟩ := pinv_call h (by decide +kernel : pins 187 8 = some (36, 11, 186, 0, [3]))
  have h8 : prun n7 186 0 (lv_args 0 [.ref t, .int hh, .int qq]) [] s2 = some (r8, s8) := h8
  obtain ⟨es8, w8, er8, _⟩ := pc_isOpen S2.1 h8
  have er8 : r8 = some (.int w8) := er8
  have et8 : s8 = s2 := es8
  rw [et8] at h
  subst er8
  have h : prun n7 187 11 [(0, .ref t), (1, .int hh), (2, .int qq)] [.int w8] s2 = some x := h
  obtain ⟨n8, l8, ⟨c11, h⟩ | ⟨c11, h⟩⟩ := u_if1 h (by decide +kernel : pins 187 11 = some (16, 14, 1, ((16 : Nat) : Int), []))
  · obtain ⟨n9, l9, h⟩ := v_al h (by decide +kernel : pins 187 16 = some (5, 17, 0, 0, [])) (v := t) rfl
    obtain ⟨n10, l10, h⟩ := w_row (k := 26) S2.1 h (by decide +kernel : pins 187 17 = some (22, 20, 13, 26, [])) (by decide)
    obtain ⟨n11, w20, l11, ⟨e20, i20⟩, h⟩ := u_ic h (by decide +kernel : pins 187 20 = some (0, 21, 4, 0, [])) (by decide)
    obtain ⟨n12, l12, h⟩ := v_il h (by decide +kernel : pins 187 21 = some (3, 22, 1, 0, [])) (v := hh) rfl
    obtain ⟨n13, w22, l13, e22, h⟩ := u_mul h (by decide +kernel : pins 187 22 = some (10, 23, 2, 0, []))
    obtain ⟨n14, l14, h⟩ := v_il h (by decide +kernel : pins 187 23 = some (3, 24, 2, 0, [])) (v := qq) rfl
    obtain ⟨n15, w24, l15, e24, h⟩ := u_add h (by decide +kernel : pins 187 24 = some (10, 25, 0, 0, []))
    obtain ⟨n16, w25, l16, ⟨e25, i25⟩, h⟩ := u_ic h (by decide +kernel : pins 187 25 = some (0, 26, 0, 0, [])) (by decide)
    obtain ⟨n17, s26, l17, b26, S26, u26, h⟩ := w_iast S2.1 h (by decide +kernel : pins 187 26 = some (28, 27, 0, 0, [])) (by decide)
    obtain ⟨n18, w27, l18, ⟨e27, i27⟩, h⟩ := u_ic h (by decide +kernel : pins 187 27 = some (0, 28, 1, 0, [])) (by decide)
    have ex := u_ret38 h (by decide +kernel : pins 187 28 = some (38, 29, 0, 0, []))
    subst ex
    refine ⟨_, rfl, (S2.tr S26), Rok.fr (fun j q hj => by rw [u26, up_ne (by omega), u2, up_ne (by omega)]) ?_ (Zr.of fun q => by rw [u26, up_ne (by decide), u2, up_ne (by decide)])⟩
    refine (Zr.of fun q => ?_ : Zr (vw t A σ) (vw t A s2) 26).tr (by rw [u26]; exact Zr.up (by rw [e25]; rfl) (by decide))
    rw [u2, up_ne (by decide)]
  · obtain ⟨n20, w14, l20, ⟨e14, i14⟩, h⟩ := u_ic h (by decide +kernel : pins 187 14 = some (0, 15, 0, 0, [])) (by decide)
    have ex := u_ret38 h (by decide +kernel : pins 187 15 = some (38, 16, 0, 0, []))
    subst ex
    exact ⟨_, rfl, S2, Rok.fr (fun j q hj => by rw [u2, up_ne (by omega)]) (Zr.of fun q => by rw [u2, up_ne (by decide)]) (Zr.of fun q => by rw [u2, up_ne (by decide)])⟩
theorem pc_gv_l {t : Nat} {A : Nat → Nat} {hh : Int32} : ∀ (n : Nat) (c : Int32) (σ : ps) (x : Option Value × ps), Wld t A σ → (PB (vw t A σ) ∧ ∀ q : Nat, q < 200 → 0 ≤ (gI (vw t A σ) 1 q).toInt ∧ (gI (vw t A σ) 1 q).toInt ≤ 255) → prun n 191 20 [(2, .int c), (0, .ref t), (1, .int hh)] [] σ = some x → ∃ (m : Nat) (c2 : Int32) (σ' : ps), SP t A σ σ' ∧ (∀ j q, ¬ j = 57 → vw t A σ' j q = vw t A σ j q) ∧ PB (vw t A σ') ∧ prun m 191 46 [(2, .int c2), (0, .ref t), (1, .int hh)] [] σ' = some x := by
  intro n
  induction n using Nat.strongRecOn with
  | ind n ih =>
    intro c σ x W I h
    obtain ⟨n1, l1, h⟩ := v_il h (by decide +kernel : pins 191 20 = some (3, 21, 2, 0, [])) (v := c) rfl
    obtain ⟨n2, l2, h⟩ := v_al h (by decide +kernel : pins 191 21 = some (5, 22, 0, 0, [])) (v := t) rfl
    obtain ⟨n3, w22, l3, e22, h⟩ := w_fi (k := 58) W h (by decide +kernel : pins 191 22 = some (22, 25, 13, 58, [])) (by decide)
    obtain ⟨n4, l4, ⟨c25, h⟩ | ⟨c25, h⟩⟩ := u_ic3 h (by decide +kernel : pins 191 25 = some (17, 28, 3, ((46 : Nat) : Int), []))
    · have h := prun_lv h (lv' := [(2, .int c), (0, .ref t), (1, .int hh)]) (lvLe.cons (lvLe.cons (lvLe.cons lvLe.nil rfl) rfl) rfl) (by decide : ([2, 0, 1] : List Nat).Nodup) (by decide : ([2, 0, 1] : List Nat).Nodup)
      exact ⟨_, _, σ, SP.rf W, fun _ _ _ => rfl, I.1, h⟩
    · obtain ⟨n5, l5, h⟩ := v_al h (by decide +kernel : pins 191 28 = some (5, 29, 0, 0, [])) (v := t) rfl
      obtain ⟨n6, l6, h⟩ := w_row (k := 57) W h (by decide +kernel : pins 191 29 = some (22, 32, 13, 57, [])) (by decide)
      obtain ⟨n7, l7, h⟩ := v_il h (by decide +kernel : pins 191 32 = some (3, 33, 2, 0, [])) (v := c) rfl
      obtain ⟨n8, l8, h⟩ := v_al h (by decide +kernel : pins 191 33 = some (5, 34, 0, 0, [])) (v := t) rfl
      obtain ⟨n9, l9, h⟩ := w_row (k := 1) W h (by decide +kernel : pins 191 34 = some (22, 37, 13, 1, [])) (by decide)
      obtain ⟨n10, l10, h⟩ := v_il h (by decide +kernel : pins 191 37 = some (3, 38, 2, 0, [])) (v := c) rfl
      obtain ⟨n11, w38, l11, b38, e38, h⟩ := w_iald W h (by decide +kernel : pins 191 38 = some (24, 39, 0, 0, [])) (by decide)
      obtain ⟨n12, s39, l12, b39, S39, u39, h⟩ := w_iast W h (by decide +kernel : pins 191 39 = some (28, 40, 0, 0, [])) (by decide)
      obtain ⟨n13, w40, l13, e40, h⟩ := u_inc h (by decide +kernel : pins 191 40 = some (9, 43, 2, 1, [])) (v := c) rfl
      have h : prun n13 191 43 [(2, .int w40), (0, .ref t), (1, .int hh)] [] s39 = some x := h
      obtain ⟨n14, l14, h⟩ := u_go h (by decide +kernel : pins 191 43 = some (20, 46, 0, ((20 : Nat) : Int), []))
      have h := prun_lv h (lv' := [(2, .int w40), (0, .ref t), (1, .int hh)]) (lvLe.cons (lvLe.cons (lvLe.cons lvLe.nil rfl) rfl) rfl) (by decide : ([2, 0, 1] : List Nat).Nodup) (by decide : ([2, 0, 1] : List Nat).Nodup)
      have b38 : 0 ≤ c.toInt ∧ c.toInt < 200 := b38
      have cn : (c.toNatClampNeg : Int) = c.toInt := n_clamp b38.1
      have B2 : PB (vw t A s39) := by
        refine ⟨fun q hq => ?_, by rw [u39, gI_ne (by decide)]; exact I.1.2⟩
        by_cases e : q = c.toNatClampNeg
        · rw [e, u39, gI_eq, e38]; exact I.2 _ (by omega)
        · rw [u39, gI_ni (by decide) e]; exact I.1.1 q hq
      obtain ⟨m, c2, σ2, y1, y2, y3, y4⟩ := ih n14 (by omega) _ _ x S39.1 ⟨B2, fun q hq => by rw [u39, gI_ne (by decide)]; exact I.2 q hq⟩ h
      exact ⟨m, c2, σ2, S39.tr y1, fun j q hj => (y2 j q hj).trans (by rw [u39, up_ne hj]), y3, y4⟩
theorem tk_qw {V V' : Nat → Nat → Value} {h : Nat} {kd nn a : Int} (w : QW V) (tk : TkE V V' h kd nn a) : QW V' := by
  -- the other invariant at a view without entries
  have tk2 := tk
  have key : (∀ j q, (j = 26 ∨ j = 28) → V' j q = V j q) → QW V' := fun f => w.of fun q => ⟨f 26 q (by omega), f 28 q (by omega)⟩
  rcases tk with ⟨u, e⟩ | ⟨-, ⟨-, c⟩ | ⟨-, c⟩ | ⟨-, c⟩ | ⟨-, V1, Q, c⟩ | ⟨-, c⟩ | ⟨-, c⟩⟩
  · exact key fun j q hj => by rw [e, up_ne (by omega)]
  · rcases c with e | ⟨F, -⟩ | ⟨-, m, -⟩
    · exact key fun j q hj => by rw [e]
    · exact key fun j q hj => F j q (by omega)
    · exact key fun j q hj => m j q (by omega)
  · rcases c with e | ⟨-, V1, e, F, -⟩ | ⟨-, m, -⟩
    · exact key fun j q hj => by rw [e]
    · exact key fun j q hj => by rw [F j q (by omega), e, up_ne (by omega)]
    · exact key fun j q hj => m j q (by omega)
  · rcases c with e | ⟨F, -⟩ | e
    · exact key fun j q hj => by rw [e]
    · exact key fun j q hj => F j q (by omega)
    · exact key fun j q hj => by rw [e, up_ne (by omega), up_ne (by omega)]
  · have w1 : QW V1 := fun q hq s => by
      rw [gI_of (Q.1 26 q (by omega) (by omega))] at s
      have w0 := w q hq s
      rcases Q.2.2 q with ⟨_, e2⟩ | ⟨_, _, x, e2, c⟩
      · rw [gI_of e2]; exact w0
      · have g : gI V1 28 q = x := by unfold gI; rw [e2]; rfl
        rw [g]
        rcases c with ⟨c1, c2⟩ | ⟨_, c2⟩
        · have e2 : (Int32.ofInt 2).toInt = 2 := by decide
          rw [c2, n_mul (by rw [e2]; omega) (by rw [e2]; omega), e2]; omega
        · omega
    have f : ∀ j q, (j = 26 ∨ j = 28) → V' j q = V1 j q := fun j q hj => by
      rcases c with e | ⟨F, -⟩ | ⟨f, -⟩
      · rw [e]
      · exact F j q (by omega)
      · exact f j q (by omega) (by omega) (by omega)
    exact w1.of fun q => ⟨f 26 q (by omega), f 28 q (by omega)⟩
  · exact w.of fun q => ⟨recs_fr _ _ _ _ c 26 q (by unfold kept; omega), recs_fr _ _ _ _ c 28 q (by omega)⟩
  · exact key fun j q hj => by rw [c]
theorem tk_ea {V V' : Nat → Nat → Value} {h : Nat} {kd nn a : Int} (e : EA V) (ty : ∀ g, g < 8 → 0 ≤ (gI V 32 g).toInt ∧ (gI V 32 g).toInt ≤ 24) (tk : TkE V V' h kd nn a) : EA V' := by
  have key : (∀ j q, (j = 32 ∨ j = 39) → V' j q = V j q) → EA V' := fun f => e.of fun q => ⟨f 32 q (by omega), f 39 q (by omega)⟩
  rcases tk with ⟨u, e⟩ | ⟨-, ⟨-, c⟩ | ⟨-, c⟩ | ⟨-, c⟩ | ⟨-, V1, Q, c⟩ | ⟨-, c⟩ | ⟨-, c⟩⟩
  · exact key fun j q hj => by rw [e, up_ne (by omega)]
  · rcases c with e | ⟨F, -⟩ | ⟨-, m, -⟩
    · exact key fun j q hj => by rw [e]
    · exact key fun j q hj => F j q (by omega)
    · exact key fun j q hj => m j q (by omega)
  · rcases c with e | ⟨-, V1, e, F, -⟩ | ⟨-, m, -⟩
    · exact key fun j q hj => by rw [e]
    · exact key fun j q hj => by rw [F j q (by omega), e, up_ne (by omega)]
    · exact key fun j q hj => m j q (by omega)
  · rcases c with e | ⟨F, -⟩ | e
    · exact key fun j q hj => by rw [e]
    · exact key fun j q hj => F j q (by omega)
    · exact key fun j q hj => by rw [e, up_ne (by omega), up_ne (by omega)]
  · have f : ∀ j q, (j = 32 ∨ j = 39) → V' j q = V j q := fun j q hj => by
      rcases c with e | ⟨F, -⟩ | ⟨f, -⟩
      · rw [e]; exact Q.1 j q (by omega) (by omega)
      · rw [F j q (by omega)]; exact Q.1 j q (by omega) (by omega)
      · rw [f j q (by omega) (by omega) (by omega)]; exact Q.1 j q (by omega) (by omega)
    exact key f
  · exact recs_ea _ _ _ _ e ty c
  · exact key fun j q hj => by rw [c]
set_option maxHeartbeats 4000000 in
theorem pc_give {t n : Nat} {A : Nat → Nat} {hh : Int32} {σ : ps} {x : Option Value × ps} (W : Wld t A σ) (h : prun n 191 0 (lv_args 0 [.ref t, .int hh]) [] σ = some x) (HA : 0 ≤ (gI (vw t A σ) 46 0).toInt ∧ (gI (vw t A σ) 46 0).toInt < 800) (HM : 0 ≤ (gI (vw t A σ) 47 0).toInt ∧ (gI (vw t A σ) 47 0).toInt ≤ 1000) (HM8 : (gI (vw t A σ) 47 0).toInt < 800) (TY : ∀ g : Nat, g < 8 → (0 ≤ (gI (vw t A σ) 31 g).toInt ∧ (gI (vw t A σ) 31 g).toInt ≤ 4) ∧ (0 ≤ (gI (vw t A σ) 32 g).toInt ∧ (gI (vw t A σ) 32 g).toInt ≤ 24) ∧ (0 ≤ (gI (vw t A σ) 20 (16 * g)).toInt ∧ (gI (vw t A σ) 20 (16 * g)).toInt ≤ 15) ∧ (gI (vw t A σ) 16 g).toInt ≤ 3) (TP : ∀ q : Nat, q < 200 → 0 ≤ (gI (vw t A σ) 1 q).toInt ∧ (gI (vw t A σ) 1 q).toInt ≤ 255) (hB : PB (vw t A σ)) (hZ : (gI (vw t A σ) 2 0).toInt ≤ 200) : ∃ w : Int32, x.1 = some (.int w) ∧ SP t A σ x.2 ∧ Rok (vw t A σ) (vw t A x.2) := by
  have h : prun n 191 0 [(0, .ref t), (1, .int hh)] [] σ = some x := h
  obtain ⟨n1, l1, h⟩ := v_al h (by decide +kernel : pins 191 0 = some (5, 1, 0, 0, [])) (v := t) rfl
  obtain ⟨n2, w1, l2, ⟨e1, i1⟩, h⟩ := u_ic h (by decide +kernel : pins 191 1 = some (0, 2, 0, 0, [])) (by decide)
  obtain ⟨n3, s2, l3, S2, u2, h⟩ := w_put (k := 3) W h (by decide +kernel : pins 191 2 = some (23, 5, 13, 3, [])) (by decide)
  obtain ⟨n4, l4, h⟩ := v_al h (by decide +kernel : pins 191 5 = some (5, 6, 0, 0, [])) (v := t) rfl
  obtain ⟨n5, l5, h⟩ := v_al h (by decide +kernel : pins 191 6 = some (5, 7, 0, 0, [])) (v := t) rfl
  obtain ⟨n6, w7, l6, e7, h⟩ := w_fi (k := 2) S2.1 h (by decide +kernel : pins 191 7 = some (22, 10, 13, 2, [])) (by decide)
  obtain ⟨n7, s10, l7, S10, u10, h⟩ := w_put (k := 58) S2.1 h (by decide +kernel : pins 191 10 = some (23, 13, 13, 58, [])) (by decide)
  obtain ⟨n8, l8, h⟩ := v_al h (by decide +kernel : pins 191 13 = some (5, 14, 0, 0, [])) (v := t) rfl
  obtain ⟨n9, w14, l9, ⟨e14, i14⟩, h⟩ := u_ic h (by decide +kernel : pins 191 14 = some (0, 15, 0, 0, [])) (by decide)
  obtain ⟨n10, s15, l10, S15, u15, h⟩ := w_put (k := 2) S10.1 h (by decide +kernel : pins 191 15 = some (23, 18, 13, 2, [])) (by decide)
  obtain ⟨n11, w18, l11, ⟨e18, i18⟩, h⟩ := u_ic h (by decide +kernel : pins 191 18 = some (0, 19, 0, 0, [])) (by decide)
  obtain ⟨n12, l12, h⟩ := v_is h (by decide +kernel : pins 191 19 = some (6, 20, 2, 0, []))
  have h : prun n12 191 20 [(2, .int w18), (0, .ref t), (1, .int hh)] [] s15 = some x := h
  have h := prun_lv h (lv' := [(2, .int w18), (0, .ref t), (1, .int hh)]) (lvLe.cons (lvLe.cons (lvLe.cons lvLe.nil rfl) rfl) rfl) (by decide : ([2, 0, 1] : List Nat).Nodup) (by decide : ([2, 0, 1] : List Nat).Nodup)
  have P2b : PB (vw t A s15) := ⟨fun q hq => by rw [u15, gI_ne (by decide), u10, gI_ne (by decide), u2, gI_ne (by decide)]; exact hB.1 q hq, by rw [u15, gI_ne (by decide), u10, gI_sc (by decide), e7, u2, gI_ne (by decide)]; exact hZ⟩
  have TP2 : ∀ q : Nat, q < 200 → 0 ≤ (gI (vw t A s15) 1 q).toInt ∧ (gI (vw t A s15) 1 q).toInt ≤ 255 := fun q hq => by rw [u15, gI_ne (by decide), u10, gI_ne (by decide), u2, gI_ne (by decide)]; exact TP q hq
  obtain ⟨m, c2, σ2, y1, y2, y3, h⟩ := pc_gv_l _ _ _ x S15.1 ⟨P2b, TP2⟩ h
  have f : ∀ j q, ¬ j = 2 → ¬ j = 3 → ¬ j = 57 → ¬ j = 58 → vw t A σ2 j q = vw t A σ j q := fun j q h1 h2 h3 h4 => by rw [y2 j q h3, u15, up_ne h1, u10, up_ne h4, u2, up_ne h2]
  have fI : ∀ j q, ¬ j = 2 → ¬ j = 3 → ¬ j = 57 → ¬ j = 58 → gI (vw t A σ2) j q = gI (vw t A σ) j q := fun j q h1 h2 h3 h4 => gI_of (f j q h1 h2 h3 h4)
  obtain ⟨n501, l501, h⟩ := v_al h (by decide +kernel : pins 191 46 = some (5, 47, 0, 0, [])) (v := t) rfl
  obtain ⟨n502, l502, h⟩ := v_il h (by decide +kernel : pins 191 47 = some (3, 48, 1, 0, [])) (v := hh) rfl
  obtain ⟨n503, r48, s48, l503, h48, h⟩ := pinv_call h (by decide +kernel : pins 191 48 = some (36, 51, 179, 0, [2]))
  have h48 : prun n503 179 0 (lv_args 0 [.ref t, .int hh]) [] σ2 = some (r48, s48) := h48
  obtain ⟨es48, w48, er48, f48⟩ := pc_isHost y1.1 h48
  have er48 : r48 = some (.int w48) := er48
  have et48 : s48 = σ2 := es48
  rw [et48] at h
  subst er48
  have h : prun n503 191 51 [(2, .int c2), (0, .ref t), (1, .int hh)] [.int w48] σ2 = some x := h
  obtain ⟨n504, l504, ⟨c51, h⟩ | ⟨c51, h⟩⟩ := u_if0 h (by decide +kernel : pins 191 51 = some (16, 54, 0, ((63 : Nat) : Int), []))
  · obtain ⟨n505, w63, l505, ⟨e63, i63⟩, h⟩ := u_ic h (by decide +kernel : pins 191 63 = some (0, 64, (-1), 0, [])) (by decide)
    have ex := u_ret38 h (by decide +kernel : pins 191 64 = some (38, 65, 0, 0, []))
    subst ex
    exact ⟨_, rfl, (((S2.tr S10).tr S15).tr y1), Rok.fr (fun j q hj => f j q (by omega) (by omega) (by omega) (by omega)) (Zr.of fun q => f 26 q (by omega) (by omega) (by omega) (by omega)) (Zr.of fun q => f 32 q (by omega) (by omega) (by omega) (by omega))⟩
  · obtain ⟨n507, l507, h⟩ := v_al h (by decide +kernel : pins 191 54 = some (5, 55, 0, 0, [])) (v := t) rfl
    obtain ⟨n508, l508, h⟩ := w_row (k := 4) y1.1 h (by decide +kernel : pins 191 55 = some (22, 58, 13, 4, [])) (by decide)
    obtain ⟨n509, l509, h⟩ := v_il h (by decide +kernel : pins 191 58 = some (3, 59, 1, 0, [])) (v := hh) rfl
    obtain ⟨n510, w59, l510, b59, e59, h⟩ := w_bald y1.1 h (by decide +kernel : pins 191 59 = some (25, 60, 0, 0, [])) (by decide)
    obtain ⟨n511, l511, ⟨c60, h⟩ | ⟨c60, h⟩⟩ := u_if1 h (by decide +kernel : pins 191 60 = some (16, 63, 1, ((65 : Nat) : Int), []))
    · obtain ⟨n512, l512, h⟩ := v_al h (by decide +kernel : pins 191 65 = some (5, 66, 0, 0, [])) (v := t) rfl
      obtain ⟨n513, l513, h⟩ := v_il h (by decide +kernel : pins 191 66 = some (3, 67, 1, 0, [])) (v := hh) rfl
      obtain ⟨n514, r67, s67, l514, h67, h⟩ := pinv_call h (by decide +kernel : pins 191 67 = some (36, 70, 172, 0, [2]))
      have h67 : prun n514 172 0 (lv_args 0 [.ref t, .int hh]) [] σ2 = some (r67, s67) := h67
      have hh0 : 0 ≤ hh.toInt ∧ hh.toInt ≤ 7 := f48 c51
      obtain ⟨hR, hE, hw, hS⟩ := TY hh.toNatClampNeg (by have := n_clamp hh0.1; omega)
      obtain ⟨w67, er67, S67, Vp, kd, nn, a, z1, z2, z3, z4⟩ := pc_takes y1.1 h67 hh0 (by rw [fI 46 0 (by omega) (by omega) (by omega) (by omega)]; exact HA) (by rw [fI 47 0 (by omega) (by omega) (by omega) (by omega)]; exact HM) (by rw [fI 31 _ (by omega) (by omega) (by omega) (by omega)]; exact hR) (by rw [fI 20 _ (by omega) (by omega) (by omega) (by omega)]; exact hw) (by rw [fI 16 _ (by omega) (by omega) (by omega) (by omega)]; exact hS) (by rw [fI 32 _ (by omega) (by omega) (by omega) (by omega)]; exact hE) y3
      have er67 : r67 = some (.int w67) := er67
      subst er67
      try dsimp only at S67
      try dsimp only at z2
      have h : prun n514 191 70 [(2, .int c2), (0, .ref t), (1, .int hh)] [.int w67] s67 = some x := h
      obtain ⟨n515, l515, ⟨c70, h⟩ | ⟨c70, h⟩⟩ := u_if0 h (by decide +kernel : pins 191 70 = some (16, 73, 0, ((77 : Nat) : Int), []))
      · obtain ⟨n516, w77, l516, ⟨e77, i77⟩, h⟩ := u_ic h (by decide +kernel : pins 191 77 = some (0, 78, 1, 0, [])) (by decide)
        have ex := u_ret38 h (by decide +kernel : pins 191 78 = some (38, 79, 0, 0, []))
        subst ex
        have g : ∀ j q, (j = 0 ∨ j = 26 ∨ j = 28 ∨ j = 32 ∨ j = 39 ∨ j = 42 ∨ j = 46 ∨ j = 47) → Vp j q = vw t A σ j q := fun j q hj => (z1 j q (by omega)).trans (f j q (by omega) (by omega) (by omega) (by omega))
        have R : Rok Vp (vw t A s67) := by
          refine ⟨fun w => ?_, fun e ty => ?_, tk_fr z2 0 0 (by unfold kept; omega), tk_rg (by rw [gI_of (g 46 0 (by omega))]; exact HA) (by rw [gI_of (g 47 0 (by omega))]; exact ⟨HM.1, HM8⟩) z2⟩
          · exact tk_qw w z2
          · exact tk_ea e ty z2
        exact ⟨_, rfl, ((((S2.tr S10).tr S15).tr y1).tr S67), R.pre g⟩
      · obtain ⟨n518, w73, l518, ⟨e73, i73⟩, h⟩ := u_ic h (by decide +kernel : pins 191 73 = some (0, 74, 0, 0, [])) (by decide)
        obtain ⟨n519, l519, h⟩ := u_go h (by decide +kernel : pins 191 74 = some (20, 77, 0, ((78 : Nat) : Int), []))
        have ex := u_ret38 h (by decide +kernel : pins 191 78 = some (38, 79, 0, 0, []))
        subst ex
        have g : ∀ j q, (j = 0 ∨ j = 26 ∨ j = 28 ∨ j = 32 ∨ j = 39 ∨ j = 42 ∨ j = 46 ∨ j = 47) → Vp j q = vw t A σ j q := fun j q hj => (z1 j q (by omega)).trans (f j q (by omega) (by omega) (by omega) (by omega))
        have R : Rok Vp (vw t A s67) := by
          refine ⟨fun w => ?_, fun e ty => ?_, tk_fr z2 0 0 (by unfold kept; omega), tk_rg (by rw [gI_of (g 46 0 (by omega))]; exact HA) (by rw [gI_of (g 47 0 (by omega))]; exact ⟨HM.1, HM8⟩) z2⟩
          · exact tk_qw w z2
          · exact tk_ea e ty z2
        exact ⟨_, rfl, ((((S2.tr S10).tr S15).tr y1).tr S67), R.pre g⟩
    · obtain ⟨n521, w63, l521, ⟨e63, i63⟩, h⟩ := u_ic h (by decide +kernel : pins 191 63 = some (0, 64, (-1), 0, [])) (by decide)
      have ex := u_ret38 h (by decide +kernel : pins 191 64 = some (38, 65, 0, 0, []))
      subst ex
      exact ⟨_, rfl, (((S2.tr S10).tr S15).tr y1), Rok.fr (fun j q hj => f j q (by omega) (by omega) (by omega) (by omega)) (Zr.of fun q => f 26 q (by omega) (by omega) (by omega) (by omega)) (Zr.of fun q => f 32 q (by omega) (by omega) (by omega) (by omega))⟩
