/-- a packet in the ring: 8 for a probe or an ask, 1 for a tell or a tame answer, else 2521 -/
def pkc (b0 b1 b7 : Int) : Nat := if b0 = 1 ∨ b0 = 3 ∨ b0 = 4 then 8 else if b0 = 5 ∧ ¬ (b1 = 1 ∧ ¬ b7 = 1) then 2521 else 1
def pk (V : Nat → Nat → Value) (s : Nat) : Nat := pkc (gI V 42 (200 * s)).toInt (gI V 42 (200 * s + 1)).toInt (gI V 42 (200 * s + 7)).toInt
def slt (V : Nat → Nat → Value) : Nat := (((gI V 46 0).toInt + (gI V 47 0).toInt) % 800).toNat
/-- one packet more -/
def Snd (V V' : Nat → Nat → Value) (p : Nat) : Prop := gI V' 46 0 = gI V 46 0 ∧ (gI V' 47 0).toInt = (gI V 47 0).toInt + 1 ∧ (∀ s, ¬ s = slt V → pk V' s = pk V s) ∧ pk V' (slt V) = p
/-- beside out and the ring nothing changes -/
def FrS (V V' : Nat → Nat → Value) : Prop := ∀ j q : Nat, ¬ (42 ≤ j ∧ j ≤ 56 ∧ ¬ j = 46 ∧ ¬ j = 51) → V' j q = V j q
/-- beside out's end nothing changes -/
def FrO (V V' : Nat → Nat → Value) : Prop := (∀ j q : Nat, ¬ j = 53 → ¬ j = 54 → ¬ j = 55 → ¬ j = 56 → ¬ (j = 52 ∧ (gI V 53 0).toInt ≤ (q : Int)) → V' j q = V j q) ∧ (gI V 53 0).toInt ≤ (gI V' 53 0).toInt
theorem FrO.rf {V : Nat → Nat → Value} : FrO V V := ⟨fun _ _ _ _ _ _ _ => rfl, Int.le_refl _⟩
theorem FrO.tr {V V1 V2 : Nat → Nat → Value} (h : FrO V V1) (h1 : FrO V1 V2) : FrO V V2 := ⟨fun j q a b c d e => (h1.1 j q a b c d (fun x => e ⟨x.1, by have := h.2; have := x.2; omega⟩)).trans (h.1 j q a b c d e), by have := h.2; have := h1.2; omega⟩
theorem FrO.s {V V' : Nat → Nat → Value} (h : FrO V V') : FrS V V' := fun j q hj => h.1 j q (by omega) (by omega) (by omega) (by omega) (by omega)
theorem FrS.rf {V : Nat → Nat → Value} : FrS V V := fun _ _ _ => rfl
theorem FrS.tr {V V1 V2 : Nat → Nat → Value} (h : FrS V V1) (h1 : FrS V1 V2) : FrS V V2 := fun j q hj => (h1 j q hj).trans (h j q hj)
theorem FrO.out {V V' : Nat → Nat → Value} (h : FrO V V') {q : Nat} (hq : (q : Int) < (gI V 53 0).toInt) : gI V' 52 q = gI V 52 q := by
  unfold gI; rw [h.1 52 q (by decide) (by decide) (by decide) (by decide) (fun e => by omega)]
/-- ring and its numbers are as before -/
theorem FrO.ring {V V' : Nat → Nat → Value} (h : FrO V V') : gI V' 46 0 = gI V 46 0 ∧ gI V' 47 0 = gI V 47 0 ∧ ∀ s, pk V' s = pk V s := by
  have z : ∀ j q : Nat, ¬ (52 ≤ j ∧ j ≤ 56) → V' j q = V j q := fun j q hj => h.1 j q (by omega) (by omega) (by omega) (by omega) (by omega)
  refine ⟨?_, ?_, fun s => ?_⟩
  · unfold gI; rw [z 46 0 (by decide)]
  · unfold gI; rw [z 47 0 (by decide)]
  · unfold pk gI; rw [z 42 _ (by decide), z 42 _ (by decide), z 42 _ (by decide)]
/-- a send behind the making of out -/
theorem Snd.of {V V1 V2 : Nat → Nat → Value} (h46 : gI V1 46 0 = gI V 46 0) (h47 : gI V1 47 0 = gI V 47 0) (hp : ∀ s, pk V1 s = pk V s) {p : Nat} (h : Snd V1 V2 p) : Snd V V2 p := by
  obtain ⟨a, b, c, d⟩ := h
  have e : slt V1 = slt V := by unfold slt; rw [h46, h47]
  rw [e] at c d
  exact ⟨a.trans h46, by rw [b, h47], fun s hs => (c s hs).trans (hp s), d⟩
theorem send_snd {V V' : Nat → Nat → Value} (h1 : 1 ≤ (gI V 53 0).toInt) (h5 : (gI V 52 0).toInt = 5 → 8 ≤ (gI V 53 0).toInt) (h200 : (gI V 53 0).toInt ≤ 200) (f : ∀ j q : Nat, ¬ j = 42 → ¬ j = 43 → ¬ j = 44 → ¬ j = 45 → ¬ j = 47 → ¬ j = 48 → ¬ j = 49 → ¬ j = 50 → V' j q = V j q) (hm : (gI V' 47 0).toInt = (gI V 47 0).toInt + 1)
    (r1 : ∀ q : Nat, ¬ (200 * slt V ≤ q ∧ (q : Int) < 200 * (slt V : Int) + (gI V 53 0).toInt) → V' 42 q = V 42 q) (r2 : ∀ e : Nat, (e : Int) < (gI V 53 0).toInt → gI V' 42 (200 * slt V + e) = gI V 52 e) :
    FrS V V' ∧ ∃ p, Snd V V' p ∧ (((gI V 52 0).toInt = 1 ∨ (gI V 52 0).toInt = 3 ∨ (gI V 52 0).toInt = 4) → p = 8) ∧ ((gI V 52 0).toInt = 2 → p = 1) ∧ ((gI V 52 0).toInt = 5 → (p = 1 ∨ p = 2521) ∧ ((gI V 52 1).toInt = 1 → ¬ (gI V 52 7).toInt = 1 → p = 1)) := by
  refine ⟨fun j q hj => f j q (by omega) (by omega) (by omega) (by omega) (by omega) (by omega) (by omega) (by omega), pk V' (slt V), ⟨?_, hm, fun s hs => ?_, rfl⟩, ?_, ?_, ?_⟩
  · unfold gI; rw [f 46 0 (by decide) (by decide) (by decide) (by decide) (by decide) (by decide) (by decide) (by decide)]
  · unfold pk gI
    rw [r1 _ (by omega), r1 _ (by omega), r1 _ (by omega)]
  · intro h
    have e0 := r2 0 (by omega)
    rw [Nat.add_zero] at e0
    unfold pk pkc
    rw [e0, if_pos h]
  · intro h
    have e0 := r2 0 (by omega)
    rw [Nat.add_zero] at e0
    unfold pk pkc
    rw [e0, if_neg (by omega), if_neg (by omega)]
  · intro h
    have h8 := h5 h
    have e0 := r2 0 (by omega)
    rw [Nat.add_zero] at e0
    unfold pk pkc
    rw [e0, r2 1 (by omega), r2 7 (by omega), if_neg (by omega)]
    constructor
    · split
      · exact Or.inr rfl
      · exact Or.inl rfl
    · intro a b
      rw [if_neg (fun q => q.2 ⟨a, b⟩)]
theorem put_fro {t : Nat} {A : Nat → Nat} {σ σ' : ps} {b : Int32} (p : ∀ j q : Nat, ¬ j = 53 → ¬ (j = 52 ∧ (gI (vw t A σ) 53 0).toInt ≤ (q : Int)) → vw t A σ' j q = vw t A σ j q) (g : (gI (vw t A σ') 53 0).toInt = (gI (vw t A σ) 53 0).toInt + b.toInt) (hb : 0 ≤ b.toInt) : FrO (vw t A σ) (vw t A σ') := ⟨fun j q h1 _ _ _ h5 => p j q h1 h5, by omega⟩
theorem pc_putOwn {t n : Nat} {A : Nat → Nat} {hh life : Int32} {σ : ps} {x : Option Value × ps} (W : Wld t A σ) (h : prun n 150 0 (lv_args 0 [.ref t, .int hh, .int life]) [] σ = some x) (hs : 0 ≤ (gI (vw t A σ) 53 0).toInt) : x.1 = none ∧ SP t A σ x.2 ∧ FrO (vw t A σ) (vw t A x.2) ∧ (gI (vw t A σ) 53 0).toInt + 8 ≤ (gI (vw t A x.2) 53 0).toInt ∧ gI (vw t A x.2) 52 ((gI (vw t A σ) 53 0).toInt + 5).toNat = life &&& 255 := by
  have h : prun n 150 0 [(0, .ref t), (1, .int hh), (2, .int life)] [] σ = some x := h
  obtain ⟨n1, l1, h⟩ := v_al h (by decide +kernel : pins 150 0 = some (5, 1, 0, 0, [])) (v := t) rfl
  obtain ⟨n2, w1, l2, ⟨e1, i1⟩, h⟩ := u_ic h (by decide +kernel : pins 150 1 = some (0, 2, 1, 0, [])) (by decide)
  obtain ⟨n3, w2, l3, ⟨e2, i2⟩, h⟩ := u_ic h (by decide +kernel : pins 150 2 = some (0, 3, 1, 0, [])) (by decide)
  obtain ⟨n4, r3, s3, l4, h3, h⟩ := pinv_call h (by decide +kernel : pins 150 3 = some (36, 6, 145, 0, [3]))
  have h3 : prun n4 145 0 (lv_args 0 [.ref t, .int w1, .int w2]) [] σ = some (r3, s3) := h3
  obtain ⟨er3, S3, p3, g3, y3⟩ := pc_put W h3 (by rw [e2]; decide)
  have er3 : r3 = none := er3
  subst er3
  try dsimp only at S3
  try dsimp only at p3
  try dsimp only at g3
  try dsimp only at y3
  have h : prun n4 150 6 [(0, .ref t), (1, .int hh), (2, .int life)] [] s3 = some x := h
  obtain ⟨n5, l5, h⟩ := v_al h (by decide +kernel : pins 150 6 = some (5, 7, 0, 0, [])) (v := t) rfl
  obtain ⟨n6, w7, l6, ⟨e7, i7⟩, h⟩ := u_ic h (by decide +kernel : pins 150 7 = some (0, 8, 1, 0, [])) (by decide)
  obtain ⟨n7, w8, l7, ⟨e8, i8⟩, h⟩ := u_ic h (by decide +kernel : pins 150 8 = some (0, 9, 1, 0, [])) (by decide)
  obtain ⟨n8, r9, s9, l8, h9, h⟩ := pinv_call h (by decide +kernel : pins 150 9 = some (36, 12, 145, 0, [3]))
  have h9 : prun n8 145 0 (lv_args 0 [.ref t, .int w7, .int w8]) [] s3 = some (r9, s9) := h9
  obtain ⟨er9, S9, p9, g9, y9⟩ := pc_put S3.1 h9 (by rw [e8]; decide)
  have er9 : r9 = none := er9
  subst er9
  try dsimp only at S9
  try dsimp only at p9
  try dsimp only at g9
  try dsimp only at y9
  have h : prun n8 150 12 [(0, .ref t), (1, .int hh), (2, .int life)] [] s9 = some x := h
  obtain ⟨n9, l9, h⟩ := v_al h (by decide +kernel : pins 150 12 = some (5, 13, 0, 0, [])) (v := t) rfl
  obtain ⟨n10, l10, h⟩ := v_il h (by decide +kernel : pins 150 13 = some (3, 14, 2, 0, [])) (v := life) rfl
  obtain ⟨n11, w14, l11, ⟨e14, i14⟩, h⟩ := u_ic h (by decide +kernel : pins 150 14 = some (0, 15, 4, 0, [])) (by decide)
  obtain ⟨n12, r15, s15, l12, h15, h⟩ := pinv_call h (by decide +kernel : pins 150 15 = some (36, 18, 145, 0, [3]))
  have h15 : prun n12 145 0 (lv_args 0 [.ref t, .int life, .int w14]) [] s9 = some (r15, s15) := h15
  obtain ⟨er15, S15, p15, g15, y15⟩ := pc_put S9.1 h15 (by rw [e14]; decide)
  have er15 : r15 = none := er15
  subst er15
  try dsimp only at S15
  try dsimp only at p15
  try dsimp only at g15
  try dsimp only at y15
  have h : prun n12 150 18 [(0, .ref t), (1, .int hh), (2, .int life)] [] s15 = some x := h
  obtain ⟨n13, l13, h⟩ := v_al h (by decide +kernel : pins 150 18 = some (5, 19, 0, 0, [])) (v := t) rfl
  obtain ⟨n14, l14, h⟩ := v_al h (by decide +kernel : pins 150 19 = some (5, 20, 0, 0, [])) (v := t) rfl
  obtain ⟨n15, l15, h⟩ := w_row (k := 21) S15.1 h (by decide +kernel : pins 150 20 = some (22, 23, 13, 21, [])) (by decide)
  obtain ⟨n16, w23, l16, ⟨e23, i23⟩, h⟩ := u_ic h (by decide +kernel : pins 150 23 = some (0, 25, 16, 0, [])) (by decide)
  obtain ⟨n17, l17, h⟩ := v_il h (by decide +kernel : pins 150 25 = some (3, 26, 1, 0, [])) (v := hh) rfl
  obtain ⟨n18, w26, l18, e26, h⟩ := u_mul h (by decide +kernel : pins 150 26 = some (10, 27, 2, 0, []))
  obtain ⟨n19, r27, s27, l19, h27, h⟩ := pinv_call h (by decide +kernel : pins 150 27 = some (36, 30, 146, 0, [3]))
  have h27 : prun n19 146 0 (lv_args 0 [.ref t, .ref (A 21), .int w26]) [] s15 = some (r27, s27) := h27
  obtain ⟨er27, S27, o27⟩ := pc_putWord S15.1 h27 (by decide)
  have er27 : r27 = none := er27
  subst er27
  try dsimp only at S27
  try dsimp only at o27
  have h : prun n19 150 30 [(0, .ref t), (1, .int hh), (2, .int life)] [] s27 = some x := h
  obtain ⟨n20, l20, h⟩ := v_al h (by decide +kernel : pins 150 30 = some (5, 31, 0, 0, [])) (v := t) rfl
  obtain ⟨n21, l21, h⟩ := v_al h (by decide +kernel : pins 150 31 = some (5, 32, 0, 0, [])) (v := t) rfl
  obtain ⟨n22, l22, h⟩ := v_il h (by decide +kernel : pins 150 32 = some (3, 33, 1, 0, [])) (v := hh) rfl
  obtain ⟨n23, r33, s33, l23, h33, h⟩ := pinv_call h (by decide +kernel : pins 150 33 = some (36, 36, 148, 0, [2]))
  have h33 : prun n23 148 0 (lv_args 0 [.ref t, .int hh]) [] s27 = some (r33, s33) := h33
  obtain ⟨es33, w33, er33, f33⟩ := pc_address S27.1 h33
  have er33 : r33 = some (.int w33) := er33
  have et33 : s33 = s27 := es33
  rw [et33] at h
  subst er33
  have h : prun n23 150 36 [(0, .ref t), (1, .int hh), (2, .int life)] [.int w33, .ref t] s27 = some x := h
  obtain ⟨n24, w36, l24, ⟨e36, i36⟩, h⟩ := u_ic h (by decide +kernel : pins 150 36 = some (0, 37, 2, 0, [])) (by decide)
  obtain ⟨n25, r37, s37, l25, h37, h⟩ := pinv_call h (by decide +kernel : pins 150 37 = some (36, 40, 145, 0, [3]))
  have h37 : prun n25 145 0 (lv_args 0 [.ref t, .int w33, .int w36]) [] s27 = some (r37, s37) := h37
  obtain ⟨er37, S37, p37, g37, y37⟩ := pc_put S27.1 h37 (by rw [e36]; decide)
  have er37 : r37 = none := er37
  subst er37
  try dsimp only at S37
  try dsimp only at p37
  try dsimp only at g37
  try dsimp only at y37
  have h : prun n25 150 40 [(0, .ref t), (1, .int hh), (2, .int life)] [] s37 = some x := h
  have ex := u_ret37 h (by decide +kernel : pins 150 40 = some (37, 41, 0, 0, []))
  subst ex
  have q3 : (gI (vw t A s3) 53 0).toInt = (gI (vw t A σ) 53 0).toInt + 1 := by rw [g3, i2]
  have q9 : (gI (vw t A s9) 53 0).toInt = (gI (vw t A σ) 53 0).toInt + 2 := by rw [g9, q3, i8]; omega
  have q15 : (gI (vw t A s15) 53 0).toInt = (gI (vw t A σ) 53 0).toInt + 6 := by rw [g15, q9, i14]; omega
  have F3 := put_fro p3 g3 (by rw [i2]; decide)
  have F9 := put_fro p9 g9 (by rw [i8]; decide)
  have F15 := put_fro p15 g15 (by rw [i14]; decide)
  have F27 : FrO (vw t A s15) (vw t A s27) := o27
  have F37 := put_fro p37 g37 (by rw [i36]; decide)
  have z := o27.2
  refine ⟨rfl, ((((S3.tr S9).tr S15).tr S27).tr S37), (((F3.tr F9).tr F15).tr F27).tr F37, ?_, ?_⟩
  · show (gI (vw t A σ) 53 0).toInt + 8 ≤ (gI (vw t A s37) 53 0).toInt
    rw [g37, i36]; omega
  · show gI (vw t A s37) 52 _ = _
    rw [FrO.out F37 (by omega), FrO.out F27 (by omega)]
    rw [q9, i14] at y15
    rw [show ((gI (vw t A σ) 53 0).toInt + 5).toNat = ((gI (vw t A σ) 53 0).toInt + 2 + 4 - 1).toNat by omega]
    show toI (vw t A s15 52 _) = _
    rw [y15]
    rfl
theorem pc_putService {t n : Nat} {A : Nat → Nat} {hh k life : Int32} {σ : ps} {x : Option Value × ps} (W : Wld t A σ) (h : prun n 151 0 (lv_args 0 [.ref t, .int hh, .int k, .int life]) [] σ = some x) : x.1 = none ∧ SP t A σ x.2 ∧ FrO (vw t A σ) (vw t A x.2) := by
  have h : prun n 151 0 [(0, .ref t), (1, .int hh), (2, .int k), (3, .int life)] [] σ = some x := h
  obtain ⟨n1, l1, h⟩ := v_al h (by decide +kernel : pins 151 0 = some (5, 1, 0, 0, [])) (v := t) rfl
  obtain ⟨n2, w1, l2, ⟨e1, i1⟩, h⟩ := u_ic h (by decide +kernel : pins 151 1 = some (0, 2, 2, 0, [])) (by decide)
  obtain ⟨n3, w2, l3, ⟨e2, i2⟩, h⟩ := u_ic h (by decide +kernel : pins 151 2 = some (0, 3, 1, 0, [])) (by decide)
  obtain ⟨n4, r3, s3, l4, h3, h⟩ := pinv_call h (by decide +kernel : pins 151 3 = some (36, 6, 145, 0, [3]))
  have h3 : prun n4 145 0 (lv_args 0 [.ref t, .int w1, .int w2]) [] σ = some (r3, s3) := h3
  obtain ⟨er3, S3, p3, g3, y3⟩ := pc_put W h3 (by rw [e2]; decide)
  have er3 : r3 = none := er3
  subst er3
  try dsimp only at S3
  try dsimp only at p3
  try dsimp only at g3
  try dsimp only at y3
  have h : prun n4 151 6 [(0, .ref t), (1, .int hh), (2, .int k), (3, .int life)] [] s3 = some x := h
  obtain ⟨n5, l5, h⟩ := v_al h (by decide +kernel : pins 151 6 = some (5, 7, 0, 0, [])) (v := t) rfl
  obtain ⟨n6, w7, l6, ⟨e7, i7⟩, h⟩ := u_ic h (by decide +kernel : pins 151 7 = some (0, 8, 0, 0, [])) (by decide)
  obtain ⟨n7, w8, l7, ⟨e8, i8⟩, h⟩ := u_ic h (by decide +kernel : pins 151 8 = some (0, 9, 1, 0, [])) (by decide)
  obtain ⟨n8, r9, s9, l8, h9, h⟩ := pinv_call h (by decide +kernel : pins 151 9 = some (36, 12, 145, 0, [3]))
  have h9 : prun n8 145 0 (lv_args 0 [.ref t, .int w7, .int w8]) [] s3 = some (r9, s9) := h9
  obtain ⟨er9, S9, p9, g9, y9⟩ := pc_put S3.1 h9 (by rw [e8]; decide)
  have er9 : r9 = none := er9
  subst er9
  try dsimp only at S9
  try dsimp only at p9
  try dsimp only at g9
  try dsimp only at y9
  have h : prun n8 151 12 [(0, .ref t), (1, .int hh), (2, .int k), (3, .int life)] [] s9 = some x := h
  obtain ⟨n9, l9, h⟩ := v_al h (by decide +kernel : pins 151 12 = some (5, 13, 0, 0, [])) (v := t) rfl
  obtain ⟨n10, l10, h⟩ := v_il h (by decide +kernel : pins 151 13 = some (3, 14, 3, 0, [])) (v := life) rfl
  obtain ⟨n11, w14, l11, ⟨e14, i14⟩, h⟩ := u_ic h (by decide +kernel : pins 151 14 = some (0, 15, 4, 0, [])) (by decide)
  obtain ⟨n12, r15, s15, l12, h15, h⟩ := pinv_call h (by decide +kernel : pins 151 15 = some (36, 18, 145, 0, [3]))
  have h15 : prun n12 145 0 (lv_args 0 [.ref t, .int life, .int w14]) [] s9 = some (r15, s15) := h15
  obtain ⟨er15, S15, p15, g15, y15⟩ := pc_put S9.1 h15 (by rw [e14]; decide)
  have er15 : r15 = none := er15
  subst er15
  try dsimp only at S15
  try dsimp only at p15
  try dsimp only at g15
  try dsimp only at y15
  have h : prun n12 151 18 [(0, .ref t), (1, .int hh), (2, .int k), (3, .int life)] [] s15 = some x := h
  obtain ⟨n13, l13, h⟩ := v_al h (by decide +kernel : pins 151 18 = some (5, 19, 0, 0, [])) (v := t) rfl
  obtain ⟨n14, l14, h⟩ := v_al h (by decide +kernel : pins 151 19 = some (5, 20, 0, 0, [])) (v := t) rfl
  obtain ⟨n15, l15, h⟩ := w_row (k := 22) S15.1 h (by decide +kernel : pins 151 20 = some (22, 23, 13, 22, [])) (by decide)
  obtain ⟨n16, w23, l16, ⟨e23, i23⟩, h⟩ := u_ic h (by decide +kernel : pins 151 23 = some (0, 25, 64, 0, [])) (by decide)
  obtain ⟨n17, l17, h⟩ := v_il h (by decide +kernel : pins 151 25 = some (3, 26, 1, 0, [])) (v := hh) rfl
  obtain ⟨n18, w26, l18, e26, h⟩ := u_mul h (by decide +kernel : pins 151 26 = some (10, 27, 2, 0, []))
  obtain ⟨n19, w27, l19, ⟨e27, i27⟩, h⟩ := u_ic h (by decide +kernel : pins 151 27 = some (0, 29, 16, 0, [])) (by decide)
  obtain ⟨n20, l20, h⟩ := v_il h (by decide +kernel : pins 151 29 = some (3, 30, 2, 0, [])) (v := k) rfl
  obtain ⟨n21, w30, l21, e30, h⟩ := u_mul h (by decide +kernel : pins 151 30 = some (10, 31, 2, 0, []))
  obtain ⟨n22, w31, l22, e31, h⟩ := u_add h (by decide +kernel : pins 151 31 = some (10, 32, 0, 0, []))
  obtain ⟨n23, r32, s32, l23, h32, h⟩ := pinv_call h (by decide +kernel : pins 151 32 = some (36, 35, 146, 0, [3]))
  have h32 : prun n23 146 0 (lv_args 0 [.ref t, .ref (A 22), .int w31]) [] s15 = some (r32, s32) := h32
  obtain ⟨er32, S32, o32⟩ := pc_putWord S15.1 h32 (by decide)
  have er32 : r32 = none := er32
  subst er32
  try dsimp only at S32
  try dsimp only at o32
  have h : prun n23 151 35 [(0, .ref t), (1, .int hh), (2, .int k), (3, .int life)] [] s32 = some x := h
  obtain ⟨n24, l24, h⟩ := v_al h (by decide +kernel : pins 151 35 = some (5, 36, 0, 0, [])) (v := t) rfl
  obtain ⟨n25, l25, h⟩ := v_al h (by decide +kernel : pins 151 36 = some (5, 37, 0, 0, [])) (v := t) rfl
  obtain ⟨n26, l26, h⟩ := w_row (k := 21) S32.1 h (by decide +kernel : pins 151 37 = some (22, 40, 13, 21, [])) (by decide)
  obtain ⟨n27, w40, l27, ⟨e40, i40⟩, h⟩ := u_ic h (by decide +kernel : pins 151 40 = some (0, 42, 16, 0, [])) (by decide)
  obtain ⟨n28, l28, h⟩ := v_il h (by decide +kernel : pins 151 42 = some (3, 43, 1, 0, [])) (v := hh) rfl
  obtain ⟨n29, w43, l29, e43, h⟩ := u_mul h (by decide +kernel : pins 151 43 = some (10, 44, 2, 0, []))
  obtain ⟨n30, r44, s44, l30, h44, h⟩ := pinv_call h (by decide +kernel : pins 151 44 = some (36, 47, 146, 0, [3]))
  have h44 : prun n30 146 0 (lv_args 0 [.ref t, .ref (A 21), .int w43]) [] s32 = some (r44, s44) := h44
  obtain ⟨er44, S44, o44⟩ := pc_putWord S32.1 h44 (by decide)
  have er44 : r44 = none := er44
  subst er44
  try dsimp only at S44
  try dsimp only at o44
  have h : prun n30 151 47 [(0, .ref t), (1, .int hh), (2, .int k), (3, .int life)] [] s44 = some x := h
  obtain ⟨n31, l31, h⟩ := v_al h (by decide +kernel : pins 151 47 = some (5, 48, 0, 0, [])) (v := t) rfl
  obtain ⟨n32, l32, h⟩ := v_al h (by decide +kernel : pins 151 48 = some (5, 49, 0, 0, [])) (v := t) rfl
  obtain ⟨n33, l33, h⟩ := w_row (k := 23) S44.1 h (by decide +kernel : pins 151 49 = some (22, 52, 13, 23, [])) (by decide)
  obtain ⟨n34, w52, l34, ⟨e52, i52⟩, h⟩ := u_ic h (by decide +kernel : pins 151 52 = some (0, 53, 4, 0, [])) (by decide)
  obtain ⟨n35, l35, h⟩ := v_il h (by decide +kernel : pins 151 53 = some (3, 54, 1, 0, [])) (v := hh) rfl
  obtain ⟨n36, w54, l36, e54, h⟩ := u_mul h (by decide +kernel : pins 151 54 = some (10, 55, 2, 0, []))
  obtain ⟨n37, l37, h⟩ := v_il h (by decide +kernel : pins 151 55 = some (3, 56, 2, 0, [])) (v := k) rfl
  obtain ⟨n38, w56, l38, e56, h⟩ := u_add h (by decide +kernel : pins 151 56 = some (10, 57, 0, 0, []))
  obtain ⟨n39, w57, l39, b57, e57, h⟩ := w_iald S44.1 h (by decide +kernel : pins 151 57 = some (24, 58, 0, 0, [])) (by decide)
  obtain ⟨n40, w58, l40, ⟨e58, i58⟩, h⟩ := u_ic h (by decide +kernel : pins 151 58 = some (0, 59, 2, 0, [])) (by decide)
  obtain ⟨n41, r59, s59, l41, h59, h⟩ := pinv_call h (by decide +kernel : pins 151 59 = some (36, 62, 145, 0, [3]))
  have h59 : prun n41 145 0 (lv_args 0 [.ref t, .int w57, .int w58]) [] s44 = some (r59, s59) := h59
  obtain ⟨er59, S59, p59, g59, y59⟩ := pc_put S44.1 h59 (by rw [e58]; decide)
  have er59 : r59 = none := er59
  subst er59
  try dsimp only at S59
  try dsimp only at p59
  try dsimp only at g59
  try dsimp only at y59
  have h : prun n41 151 62 [(0, .ref t), (1, .int hh), (2, .int k), (3, .int life)] [] s59 = some x := h
  have ex := u_ret37 h (by decide +kernel : pins 151 62 = some (37, 63, 0, 0, []))
  subst ex
  have F3 := put_fro p3 g3 (by rw [i2]; decide)
  have F9 := put_fro p9 g9 (by rw [i8]; decide)
  have F15 := put_fro p15 g15 (by rw [i14]; decide)
  have F32 : FrO (vw t A s15) (vw t A s32) := o32
  have F44 : FrO (vw t A s32) (vw t A s44) := o44
  have F59 := put_fro p59 g59 (by rw [i58]; decide)
  exact ⟨rfl, (((((S3.tr S9).tr S15).tr S32).tr S44).tr S59), ((((F3.tr F9).tr F15).tr F32).tr F44).tr F59⟩
/-- behind begin: kind, size 1, the ring as before -/
theorem begin_ok {V V1 : Nat → Nat → Value} {c : Int32} (e : V1 = up (up (up V 52 0 (.int c)) 53 0 (.int 1)) 55 0 (.int 0)) : gI V1 52 0 = c ∧ (gI V1 53 0).toInt = 1 ∧ FrS V V1 ∧ gI V1 46 0 = gI V 46 0 ∧ gI V1 47 0 = gI V 47 0 ∧ ∀ s, pk V1 s = pk V s := by
  have z : ∀ j q : Nat, ¬ j = 52 → ¬ j = 53 → ¬ j = 55 → V1 j q = V j q := fun j q a b c => by rw [e, up_ne c, up_ne b, up_ne a]
  refine ⟨?_, ?_, fun j q hj => z j q (by omega) (by omega) (by omega), ?_, ?_, fun s => ?_⟩
  · rw [e, gI_ne (by decide), gI_ne (by decide), gI_eq]
  · rw [e, gI_ne (by decide), gI_sc (by decide)]; decide
  · unfold gI; rw [z 46 0 (by decide) (by decide) (by decide)]
  · unfold gI; rw [z 47 0 (by decide) (by decide) (by decide)]
  · unfold pk gI; rw [z 42 _ (by decide) (by decide) (by decide), z 42 _ (by decide) (by decide) (by decide), z 42 _ (by decide) (by decide) (by decide)]
/-- begin, the making of out, send -/
theorem all_snd {V V1 V2 V3 : Nat → Nat → Value} {c : Int32} (e : V1 = up (up (up V 52 0 (.int c)) 53 0 (.int 1)) 55 0 (.int 0)) (F : FrO V1 V2) (h8 : c.toInt = 5 → 8 ≤ (gI V2 53 0).toInt) (m : (gI V2 53 0).toInt ≤ 200) (f : ∀ j q : Nat, ¬ j = 42 → ¬ j = 43 → ¬ j = 44 → ¬ j = 45 → ¬ j = 47 → ¬ j = 48 → ¬ j = 49 → ¬ j = 50 → V3 j q = V2 j q) (hm : (gI V3 47 0).toInt = (gI V2 47 0).toInt + 1)
    (r1 : ∀ q : Nat, ¬ (200 * slt V2 ≤ q ∧ (q : Int) < 200 * (slt V2 : Int) + (gI V2 53 0).toInt) → V3 42 q = V2 42 q) (r2 : ∀ e : Nat, (e : Int) < (gI V2 53 0).toInt → gI V3 42 (200 * slt V2 + e) = gI V2 52 e) :
    FrS V V3 ∧ ∃ p, Snd V V3 p ∧ ((c.toInt = 1 ∨ c.toInt = 3 ∨ c.toInt = 4) → p = 8) ∧ (c.toInt = 2 → p = 1) ∧ (c.toInt = 5 → (p = 1 ∨ p = 2521) ∧ ((gI V2 52 1).toInt = 1 → ¬ (gI V2 52 7).toInt = 1 → p = 1)) := by
  obtain ⟨b1, b2, b3, b4, b5, b6⟩ := begin_ok e
  obtain ⟨c1, c2, c3⟩ := F.ring
  have o0 : gI V2 52 0 = c := by rw [FrO.out F (by rw [b2]; decide), b1]
  have s1 : 1 ≤ (gI V2 53 0).toInt := by have := F.2; omega
  obtain ⟨d1, p, d2, d3⟩ := send_snd s1 (by rw [o0]; exact h8) m f hm r1 r2
  rw [o0] at d3
  exact ⟨(b3.tr F.s).tr d1, p, Snd.of (c1.trans b4) (c2.trans b5) (fun s => (c3 s).trans (b6 s)) d2, d3⟩
/-- the ring's numbers at the send -/
theorem pre_snd {V V1 V2 : Nat → Nat → Value} {c : Int32} (e : V1 = up (up (up V 52 0 (.int c)) 53 0 (.int 1)) 55 0 (.int 0)) (F : FrO V1 V2) (HA : 0 ≤ (gI V 46 0).toInt ∧ (gI V 46 0).toInt < 800) (HM : 0 ≤ (gI V 47 0).toInt ∧ (gI V 47 0).toInt ≤ 1000) : (0 ≤ (gI V2 46 0).toInt ∧ (gI V2 46 0).toInt < 800) ∧ (0 ≤ (gI V2 47 0).toInt ∧ (gI V2 47 0).toInt ≤ 1000) := by
  obtain ⟨b1, b2, b3, b4, b5, b6⟩ := begin_ok e
  obtain ⟨c1, c2, c3⟩ := F.ring
  rw [c1, c2, b4, b5]
  exact ⟨HA, HM⟩
theorem pc_sendAddress {t n : Nat} {A : Nat → Nat} {hh c : Int32} {σ : ps} {x : Option Value × ps} (W : Wld t A σ) (h : prun n 149 0 (lv_args 0 [.ref t, .int hh, .int c]) [] σ = some x) (HA : 0 ≤ (gI (vw t A σ) 46 0).toInt ∧ (gI (vw t A σ) 46 0).toInt < 800) (HM : 0 ≤ (gI (vw t A σ) 47 0).toInt ∧ (gI (vw t A σ) 47 0).toInt ≤ 1000) (hc : c.toInt = 1 ∨ c.toInt = 2) : x.1 = none ∧ SP t A σ x.2 ∧ FrS (vw t A σ) (vw t A x.2) ∧ ∃ p, Snd (vw t A σ) (vw t A x.2) p ∧ (c.toInt = 1 → p = 8) ∧ (c.toInt = 2 → p = 1) := by
  have h : prun n 149 0 [(0, .ref t), (1, .int hh), (2, .int c)] [] σ = some x := h
  obtain ⟨n1, l1, h⟩ := v_al h (by decide +kernel : pins 149 0 = some (5, 1, 0, 0, [])) (v := t) rfl
  obtain ⟨n2, l2, h⟩ := v_il h (by decide +kernel : pins 149 1 = some (3, 2, 2, 0, [])) (v := c) rfl
  obtain ⟨n3, r2, s2, l3, h2, h⟩ := pinv_call h (by decide +kernel : pins 149 2 = some (36, 5, 144, 0, [2]))
  have h2 : prun n3 144 0 (lv_args 0 [.ref t, .int c]) [] σ = some (r2, s2) := h2
  obtain ⟨er2, S2, v2⟩ := pc_begin W h2
  have er2 : r2 = none := er2
  subst er2
  try dsimp only at S2
  try dsimp only at v2
  have h : prun n3 149 5 [(0, .ref t), (1, .int hh), (2, .int c)] [] s2 = some x := h
  obtain ⟨n4, l4, h⟩ := v_al h (by decide +kernel : pins 149 5 = some (5, 6, 0, 0, [])) (v := t) rfl
  obtain ⟨n5, l5, h⟩ := v_al h (by decide +kernel : pins 149 6 = some (5, 7, 0, 0, [])) (v := t) rfl
  obtain ⟨n6, l6, h⟩ := v_il h (by decide +kernel : pins 149 7 = some (3, 8, 1, 0, [])) (v := hh) rfl
  obtain ⟨n7, r8, s8, l7, h8, h⟩ := pinv_call h (by decide +kernel : pins 149 8 = some (36, 11, 148, 0, [2]))
  have h8 : prun n7 148 0 (lv_args 0 [.ref t, .int hh]) [] s2 = some (r8, s8) := h8
  obtain ⟨es8, w8, er8, f8⟩ := pc_address S2.1 h8
  have er8 : r8 = some (.int w8) := er8
  have et8 : s8 = s2 := es8
  rw [et8] at h
  subst er8
  have h : prun n7 149 11 [(0, .ref t), (1, .int hh), (2, .int c)] [.int w8, .ref t] s2 = some x := h
  obtain ⟨n8, w11, l8, ⟨e11, i11⟩, h⟩ := u_ic h (by decide +kernel : pins 149 11 = some (0, 12, 2, 0, [])) (by decide)
  obtain ⟨n9, r12, s12, l9, h12, h⟩ := pinv_call h (by decide +kernel : pins 149 12 = some (36, 15, 145, 0, [3]))
  have h12 : prun n9 145 0 (lv_args 0 [.ref t, .int w8, .int w11]) [] s2 = some (r12, s12) := h12
  obtain ⟨er12, S12, p12, g12, y12⟩ := pc_put S2.1 h12 (by rw [e11]; decide)
  have er12 : r12 = none := er12
  subst er12
  try dsimp only at S12
  try dsimp only at p12
  try dsimp only at g12
  try dsimp only at y12
  have h : prun n9 149 15 [(0, .ref t), (1, .int hh), (2, .int c)] [] s12 = some x := h
  obtain ⟨n10, l10, h⟩ := v_al h (by decide +kernel : pins 149 15 = some (5, 16, 0, 0, [])) (v := t) rfl
  obtain ⟨n11, l11, h⟩ := v_al h (by decide +kernel : pins 149 16 = some (5, 17, 0, 0, [])) (v := t) rfl
  obtain ⟨n12, l12, h⟩ := w_row (k := 5) S12.1 h (by decide +kernel : pins 149 17 = some (22, 20, 13, 5, [])) (by decide)
  obtain ⟨n13, l13, h⟩ := v_il h (by decide +kernel : pins 149 20 = some (3, 21, 1, 0, [])) (v := hh) rfl
  obtain ⟨n14, w21, l14, b21, e21, h⟩ := w_iald S12.1 h (by decide +kernel : pins 149 21 = some (24, 22, 0, 0, [])) (by decide)
  obtain ⟨n15, w22, l15, ⟨e22, i22⟩, h⟩ := u_ic h (by decide +kernel : pins 149 22 = some (0, 23, 2, 0, [])) (by decide)
  obtain ⟨n16, r23, s23, l16, h23, h⟩ := pinv_call h (by decide +kernel : pins 149 23 = some (36, 26, 145, 0, [3]))
  have h23 : prun n16 145 0 (lv_args 0 [.ref t, .int w21, .int w22]) [] s12 = some (r23, s23) := h23
  obtain ⟨er23, S23, p23, g23, y23⟩ := pc_put S12.1 h23 (by rw [e22]; decide)
  have er23 : r23 = none := er23
  subst er23
  try dsimp only at S23
  try dsimp only at p23
  try dsimp only at g23
  try dsimp only at y23
  have h : prun n16 149 26 [(0, .ref t), (1, .int hh), (2, .int c)] [] s23 = some x := h
  obtain ⟨n17, l17, h⟩ := v_al h (by decide +kernel : pins 149 26 = some (5, 27, 0, 0, [])) (v := t) rfl
  obtain ⟨n18, l18, h⟩ := v_il h (by decide +kernel : pins 149 27 = some (3, 28, 1, 0, [])) (v := hh) rfl
  obtain ⟨n19, r28, s28, l19, h28, h⟩ := pinv_call h (by decide +kernel : pins 149 28 = some (36, 31, 147, 0, [2]))
  have h28 : prun n19 147 0 (lv_args 0 [.ref t, .int hh]) [] s23 = some (r28, s28) := h28
  have F12 := put_fro p12 g12 (by rw [i11]; decide)
  have F23 := put_fro p23 g23 (by rw [i22]; decide)
  obtain ⟨HA2, HM2⟩ := pre_snd v2 (F12.tr F23) HA HM
  obtain ⟨er28, S28, m28, j28, k28, ra28, rb28⟩ := pc_send S23.1 h28 HA2 HM2
  have er28 : r28 = none := er28
  subst er28
  try dsimp only at S28
  try dsimp only at m28
  try dsimp only at j28
  try dsimp only at k28
  try dsimp only at ra28
  try dsimp only at rb28
  have h : prun n19 149 31 [(0, .ref t), (1, .int hh), (2, .int c)] [] s28 = some x := h
  have ex := u_ret37 h (by decide +kernel : pins 149 31 = some (37, 32, 0, 0, []))
  subst ex
  obtain ⟨a1, p, a2, a3, a4, _⟩ := all_snd v2 (F12.tr F23) (fun h => by omega) m28 j28 k28 ra28 rb28
  exact ⟨rfl, (((S2.tr S12).tr S23).tr S28), a1, p, a2, fun h => a3 (Or.inl h), a4⟩
theorem pc_tells_l {t : Nat} {A : Nat → Nat} {hh life al : Int32} : ∀ (n : Nat) (c : Int32) (σ : ps) (x : Option Value × ps), Wld t A σ → (True) → prun n 152 35 [(4, .int c), (0, .ref t), (1, .int hh), (2, .int life), (3, .int al)] [] σ = some x → ∃ (m : Nat) (c2 : Int32) (σ' : ps), SP t A σ σ' ∧ FrO (vw t A σ) (vw t A σ') ∧ prun m 152 64 [(4, .int c2), (0, .ref t), (1, .int hh), (2, .int life), (3, .int al)] [] σ' = some x := by
  intro n
  induction n using Nat.strongRecOn with
  | ind n ih =>
    intro c σ x W I h
    obtain ⟨n1, l1, h⟩ := v_il h (by decide +kernel : pins 152 35 = some (3, 37, 4, 0, [])) (v := c) rfl
    obtain ⟨n2, l2, h⟩ := v_al h (by decide +kernel : pins 152 37 = some (5, 38, 0, 0, [])) (v := t) rfl
    obtain ⟨n3, l3, h⟩ := w_row (k := 24) W h (by decide +kernel : pins 152 38 = some (22, 41, 13, 24, [])) (by decide)
    obtain ⟨n4, l4, h⟩ := v_il h (by decide +kernel : pins 152 41 = some (3, 42, 1, 0, [])) (v := hh) rfl
    obtain ⟨n5, w42, l5, b42, e42, h⟩ := w_iald W h (by decide +kernel : pins 152 42 = some (24, 43, 0, 0, [])) (by decide)
    obtain ⟨n6, l6, ⟨c43, h⟩ | ⟨c43, h⟩⟩ := u_ic3 h (by decide +kernel : pins 152 43 = some (17, 46, 3, ((64 : Nat) : Int), []))
    · have h := prun_lv h (lv' := [(4, .int c), (0, .ref t), (1, .int hh), (2, .int life), (3, .int al)]) (lvLe.cons (lvLe.cons (lvLe.cons (lvLe.cons (lvLe.cons lvLe.nil rfl) rfl) rfl) rfl) rfl) (by decide : ([4, 0, 1, 2, 3] : List Nat).Nodup) (by decide : ([4, 0, 1, 2, 3] : List Nat).Nodup)
      exact ⟨_, _, σ, SP.rf W, FrO.rf, h⟩
    · obtain ⟨n7, l7, h⟩ := v_il h (by decide +kernel : pins 152 46 = some (3, 47, 3, 0, [])) (v := al) rfl
      obtain ⟨n8, l8, ⟨c47, h⟩ | ⟨c47, h⟩⟩ := u_if0 h (by decide +kernel : pins 152 47 = some (16, 50, 0, ((64 : Nat) : Int), []))
      · have h := prun_lv h (lv' := [(4, .int c), (0, .ref t), (1, .int hh), (2, .int life), (3, .int al)]) (lvLe.cons (lvLe.cons (lvLe.cons (lvLe.cons (lvLe.cons lvLe.nil rfl) rfl) rfl) rfl) rfl) (by decide : ([4, 0, 1, 2, 3] : List Nat).Nodup) (by decide : ([4, 0, 1, 2, 3] : List Nat).Nodup)
        exact ⟨_, _, σ, SP.rf W, FrO.rf, h⟩
      · obtain ⟨n9, l9, h⟩ := v_al h (by decide +kernel : pins 152 50 = some (5, 51, 0, 0, [])) (v := t) rfl
        obtain ⟨n10, l10, h⟩ := v_il h (by decide +kernel : pins 152 51 = some (3, 52, 1, 0, [])) (v := hh) rfl
        obtain ⟨n11, l11, h⟩ := v_il h (by decide +kernel : pins 152 52 = some (3, 54, 4, 0, [])) (v := c) rfl
        obtain ⟨n12, l12, h⟩ := v_il h (by decide +kernel : pins 152 54 = some (3, 55, 2, 0, [])) (v := life) rfl
        obtain ⟨n13, r55, s55, l13, h55, h⟩ := pinv_call h (by decide +kernel : pins 152 55 = some (36, 58, 151, 0, [4]))
        have h55 : prun n13 151 0 (lv_args 0 [.ref t, .int hh, .int c, .int life]) [] σ = some (r55, s55) := h55
        obtain ⟨er55, S55, f55⟩ := pc_putService W h55
        have er55 : r55 = none := er55
        subst er55
        try dsimp only at S55
        try dsimp only at f55
        have h : prun n13 152 58 [(4, .int c), (0, .ref t), (1, .int hh), (2, .int life), (3, .int al)] [] s55 = some x := h
        obtain ⟨n14, w58, l14, e58, h⟩ := u_inc h (by decide +kernel : pins 152 58 = some (9, 61, 4, 1, [])) (v := c) rfl
        have h : prun n14 152 61 [(4, .int w58), (0, .ref t), (1, .int hh), (2, .int life), (3, .int al)] [] s55 = some x := h
        obtain ⟨n15, l15, h⟩ := u_go h (by decide +kernel : pins 152 61 = some (20, 64, 0, ((35 : Nat) : Int), []))
        have h := prun_lv h (lv' := [(4, .int w58), (0, .ref t), (1, .int hh), (2, .int life), (3, .int al)]) (lvLe.cons (lvLe.cons (lvLe.cons (lvLe.cons (lvLe.cons lvLe.nil rfl) rfl) rfl) rfl) rfl) (by decide : ([4, 0, 1, 2, 3] : List Nat).Nodup) (by decide : ([4, 0, 1, 2, 3] : List Nat).Nodup)
        obtain ⟨m, c2, σ2, y1, y2, y3⟩ := ih n15 (by omega) _ _ x S55.1 trivial h
        exact ⟨m, c2, σ2, S55.tr y1, FrO.tr f55 y2, y3⟩
theorem pc_tells {t n : Nat} {A : Nat → Nat} {hh life al : Int32} {σ : ps} {x : Option Value × ps} (W : Wld t A σ) (h : prun n 152 0 (lv_args 0 [.ref t, .int hh, .int life, .int al]) [] σ = some x) (HA : 0 ≤ (gI (vw t A σ) 46 0).toInt ∧ (gI (vw t A σ) 46 0).toInt < 800) (HM : 0 ≤ (gI (vw t A σ) 47 0).toInt ∧ (gI (vw t A σ) 47 0).toInt ≤ 1000) : x.1 = none ∧ SP t A σ x.2 ∧ FrS (vw t A σ) (vw t A x.2) ∧ ∃ p, Snd (vw t A σ) (vw t A x.2) p ∧ (p = 1 ∨ p = 2521) ∧ (al.toInt = 0 → ¬ (life &&& 255).toInt = 1 → p = 1) := by
  have h : prun n 152 0 [(0, .ref t), (1, .int hh), (2, .int life), (3, .int al)] [] σ = some x := h
  obtain ⟨n1, l1, h⟩ := v_al h (by decide +kernel : pins 152 0 = some (5, 1, 0, 0, [])) (v := t) rfl
  obtain ⟨n2, w1, l2, ⟨e1, i1⟩, h⟩ := u_ic h (by decide +kernel : pins 152 1 = some (0, 2, 5, 0, [])) (by decide)
  obtain ⟨n3, r2, s2, l3, h2, h⟩ := pinv_call h (by decide +kernel : pins 152 2 = some (36, 5, 144, 0, [2]))
  have h2 : prun n3 144 0 (lv_args 0 [.ref t, .int w1]) [] σ = some (r2, s2) := h2
  obtain ⟨er2, S2, v2⟩ := pc_begin W h2
  have er2 : r2 = none := er2
  subst er2
  try dsimp only at S2
  try dsimp only at v2
  have h : prun n3 152 5 [(0, .ref t), (1, .int hh), (2, .int life), (3, .int al)] [] s2 = some x := h
  obtain ⟨n4, l4, h⟩ := v_al h (by decide +kernel : pins 152 5 = some (5, 6, 0, 0, [])) (v := t) rfl
  obtain ⟨n5, l5, h⟩ := v_il h (by decide +kernel : pins 152 6 = some (3, 7, 3, 0, [])) (v := al) rfl
  obtain ⟨n6, l6, ⟨c7, h⟩ | ⟨c7, h⟩⟩ := u_if0 h (by decide +kernel : pins 152 7 = some (16, 10, 0, ((21 : Nat) : Int), []))
  · obtain ⟨n7, w21, l7, ⟨e21, i21⟩, h⟩ := u_ic h (by decide +kernel : pins 152 21 = some (0, 22, 1, 0, [])) (by decide)
    obtain ⟨n8, w22, l8, ⟨e22, i22⟩, h⟩ := u_ic h (by decide +kernel : pins 152 22 = some (0, 23, 1, 0, [])) (by decide)
    obtain ⟨n9, r23, s23, l9, h23, h⟩ := pinv_call h (by decide +kernel : pins 152 23 = some (36, 26, 145, 0, [3]))
    have h23 : prun n9 145 0 (lv_args 0 [.ref t, .int w21, .int w22]) [] s2 = some (r23, s23) := h23
    obtain ⟨er23, S23, p23, g23, y23⟩ := pc_put S2.1 h23 (by rw [e22]; decide)
    have er23 : r23 = none := er23
    subst er23
    try dsimp only at S23
    try dsimp only at p23
    try dsimp only at g23
    try dsimp only at y23
    have h : prun n9 152 26 [(0, .ref t), (1, .int hh), (2, .int life), (3, .int al)] [] s23 = some x := h
    obtain ⟨n10, l10, h⟩ := v_al h (by decide +kernel : pins 152 26 = some (5, 27, 0, 0, [])) (v := t) rfl
    obtain ⟨n11, l11, h⟩ := v_il h (by decide +kernel : pins 152 27 = some (3, 28, 1, 0, [])) (v := hh) rfl
    obtain ⟨n12, l12, h⟩ := v_il h (by decide +kernel : pins 152 28 = some (3, 29, 2, 0, [])) (v := life) rfl
    obtain ⟨n13, r29, s29, l13, h29, h⟩ := pinv_call h (by decide +kernel : pins 152 29 = some (36, 32, 150, 0, [3]))
    have h29 : prun n13 150 0 (lv_args 0 [.ref t, .int hh, .int life]) [] s23 = some (r29, s29) := h29
    obtain ⟨er29, S29, F29, z29, x29⟩ := pc_putOwn S23.1 h29 (by rw [g23, (begin_ok v2).2.1, i22]; decide)
    have er29 : r29 = none := er29
    subst er29
    try dsimp only at S29
    try dsimp only at F29
    try dsimp only at z29
    try dsimp only at x29
    have h : prun n13 152 32 [(0, .ref t), (1, .int hh), (2, .int life), (3, .int al)] [] s29 = some x := h
    obtain ⟨n14, w32, l14, ⟨e32, i32⟩, h⟩ := u_ic h (by decide +kernel : pins 152 32 = some (0, 33, 0, 0, [])) (by decide)
    obtain ⟨n15, l15, h⟩ := v_is h (by decide +kernel : pins 152 33 = some (6, 35, 4, 0, []))
    have h : prun n15 152 35 [(4, .int w32), (0, .ref t), (1, .int hh), (2, .int life), (3, .int al)] [] s29 = some x := h
    have h := prun_lv h (lv' := [(4, .int w32), (0, .ref t), (1, .int hh), (2, .int life), (3, .int al)]) (lvLe.cons (lvLe.cons (lvLe.cons (lvLe.cons (lvLe.cons lvLe.nil rfl) rfl) rfl) rfl) rfl) (by decide : ([4, 0, 1, 2, 3] : List Nat).Nodup) (by decide : ([4, 0, 1, 2, 3] : List Nat).Nodup)
    obtain ⟨m, c2, σ2, y1, y2, h⟩ := pc_tells_l _ _ _ x S29.1 trivial h
    have F23 := put_fro p23 g23 (by rw [i22]; decide)
    obtain ⟨b1, b2, b3, b4, b5, b6⟩ := begin_ok v2
    have q23 : (gI (vw t A s23) 53 0).toInt = 2 := by rw [g23, b2, i22]; rfl
    have F : FrO (vw t A s2) (vw t A σ2) := (F23.tr F29).tr y2
    obtain ⟨HA2, HM2⟩ := pre_snd v2 F HA HM
    obtain ⟨n501, l501, h⟩ := v_al h (by decide +kernel : pins 152 64 = some (5, 65, 0, 0, [])) (v := t) rfl
    obtain ⟨n502, l502, h⟩ := v_il h (by decide +kernel : pins 152 65 = some (3, 66, 1, 0, [])) (v := hh) rfl
    obtain ⟨n503, r66, s66, l503, h66, h⟩ := pinv_call h (by decide +kernel : pins 152 66 = some (36, 69, 147, 0, [2]))
    have h66 : prun n503 147 0 (lv_args 0 [.ref t, .int hh]) [] σ2 = some (r66, s66) := h66
    obtain ⟨er66, S66, m66, j66, k66, ra66, rb66⟩ := pc_send y1.1 h66 HA2 HM2
    have er66 : r66 = none := er66
    subst er66
    try dsimp only at S66
    try dsimp only at m66
    try dsimp only at j66
    try dsimp only at k66
    try dsimp only at ra66
    try dsimp only at rb66
    have h : prun n503 152 69 [(4, .int c2), (0, .ref t), (1, .int hh), (2, .int life), (3, .int al)] [] s66 = some x := h
    have ex := u_ret37 h (by decide +kernel : pins 152 69 = some (37, 70, 0, 0, []))
    subst ex
    obtain ⟨a1, p, a2, _, _, a3⟩ := all_snd v2 F (fun _ => by have := y2.2; omega) m66 j66 k66 ra66 rb66
    obtain ⟨a3, a4⟩ := a3 (by rw [i1])
    refine ⟨rfl, ((((S2.tr S23).tr S29).tr y1).tr S66), a1, p, a2, a3, fun h0 h1 => ?_⟩
    refine a4 ?_ ?_
    · rw [FrO.out (F29.tr y2) (by rw [q23]; decide)]
      have y23 : vw t A s23 52 (1 + w22.toInt - 1).toNat = .int (w21 &&& 255) := by rw [b2] at y23; exact y23
      rw [i22] at y23
      show (toI (vw t A s23 52 1)).toInt = 1
      rw [show vw t A s23 52 1 = .int (w21 &&& 255) from y23, e21]
      decide
    · rw [FrO.out y2 (by omega)]
      have x29 : gI (vw t A s29) 52 7 = life &&& 255 := by rw [q23] at x29; exact x29
      rw [x29]
      exact h1
  · obtain ⟨n16, w10, l16, ⟨e10, i10⟩, h⟩ := u_ic h (by decide +kernel : pins 152 10 = some (0, 11, 1, 0, [])) (by decide)
    obtain ⟨n17, l17, h⟩ := v_al h (by decide +kernel : pins 152 11 = some (5, 12, 0, 0, [])) (v := t) rfl
    obtain ⟨n18, l18, h⟩ := w_row (k := 24) S2.1 h (by decide +kernel : pins 152 12 = some (22, 15, 13, 24, [])) (by decide)
    obtain ⟨n19, l19, h⟩ := v_il h (by decide +kernel : pins 152 15 = some (3, 16, 1, 0, [])) (v := hh) rfl
    obtain ⟨n20, w16, l20, b16, e16, h⟩ := w_iald S2.1 h (by decide +kernel : pins 152 16 = some (24, 17, 0, 0, [])) (by decide)
    obtain ⟨n21, w17, l21, e17, h⟩ := u_add h (by decide +kernel : pins 152 17 = some (10, 18, 0, 0, []))
    obtain ⟨n22, l22, h⟩ := u_go h (by decide +kernel : pins 152 18 = some (20, 21, 0, ((22 : Nat) : Int), []))
    obtain ⟨n23, w22, l23, ⟨e22, i22⟩, h⟩ := u_ic h (by decide +kernel : pins 152 22 = some (0, 23, 1, 0, [])) (by decide)
    obtain ⟨n24, r23, s23, l24, h23, h⟩ := pinv_call h (by decide +kernel : pins 152 23 = some (36, 26, 145, 0, [3]))
    have h23 : prun n24 145 0 (lv_args 0 [.ref t, .int w17, .int w22]) [] s2 = some (r23, s23) := h23
    obtain ⟨er23, S23, p23, g23, y23⟩ := pc_put S2.1 h23 (by rw [e22]; decide)
    have er23 : r23 = none := er23
    subst er23
    try dsimp only at S23
    try dsimp only at p23
    try dsimp only at g23
    try dsimp only at y23
    have h : prun n24 152 26 [(0, .ref t), (1, .int hh), (2, .int life), (3, .int al)] [] s23 = some x := h
    obtain ⟨n25, l25, h⟩ := v_al h (by decide +kernel : pins 152 26 = some (5, 27, 0, 0, [])) (v := t) rfl
    obtain ⟨n26, l26, h⟩ := v_il h (by decide +kernel : pins 152 27 = some (3, 28, 1, 0, [])) (v := hh) rfl
    obtain ⟨n27, l27, h⟩ := v_il h (by decide +kernel : pins 152 28 = some (3, 29, 2, 0, [])) (v := life) rfl
    obtain ⟨n28, r29, s29, l28, h29, h⟩ := pinv_call h (by decide +kernel : pins 152 29 = some (36, 32, 150, 0, [3]))
    have h29 : prun n28 150 0 (lv_args 0 [.ref t, .int hh, .int life]) [] s23 = some (r29, s29) := h29
    obtain ⟨er29, S29, F29, z29, x29⟩ := pc_putOwn S23.1 h29 (by rw [g23, (begin_ok v2).2.1, i22]; decide)
    have er29 : r29 = none := er29
    subst er29
    try dsimp only at S29
    try dsimp only at F29
    try dsimp only at z29
    try dsimp only at x29
    have h : prun n28 152 32 [(0, .ref t), (1, .int hh), (2, .int life), (3, .int al)] [] s29 = some x := h
    obtain ⟨n29, w32, l29, ⟨e32, i32⟩, h⟩ := u_ic h (by decide +kernel : pins 152 32 = some (0, 33, 0, 0, [])) (by decide)
    obtain ⟨n30, l30, h⟩ := v_is h (by decide +kernel : pins 152 33 = some (6, 35, 4, 0, []))
    have h : prun n30 152 35 [(4, .int w32), (0, .ref t), (1, .int hh), (2, .int life), (3, .int al)] [] s29 = some x := h
    have h := prun_lv h (lv' := [(4, .int w32), (0, .ref t), (1, .int hh), (2, .int life), (3, .int al)]) (lvLe.cons (lvLe.cons (lvLe.cons (lvLe.cons (lvLe.cons lvLe.nil rfl) rfl) rfl) rfl) rfl) (by decide : ([4, 0, 1, 2, 3] : List Nat).Nodup) (by decide : ([4, 0, 1, 2, 3] : List Nat).Nodup)
    obtain ⟨m, c2, σ2, y1, y2, h⟩ := pc_tells_l _ _ _ x S29.1 trivial h
    have F23 := put_fro p23 g23 (by rw [i22]; decide)
    obtain ⟨b1, b2, b3, b4, b5, b6⟩ := begin_ok v2
    have q23 : (gI (vw t A s23) 53 0).toInt = 2 := by rw [g23, b2, i22]; rfl
    have F : FrO (vw t A s2) (vw t A σ2) := (F23.tr F29).tr y2
    obtain ⟨HA2, HM2⟩ := pre_snd v2 F HA HM
    obtain ⟨n501, l501, h⟩ := v_al h (by decide +kernel : pins 152 64 = some (5, 65, 0, 0, [])) (v := t) rfl
    obtain ⟨n502, l502, h⟩ := v_il h (by decide +kernel : pins 152 65 = some (3, 66, 1, 0, [])) (v := hh) rfl
    obtain ⟨n503, r66, s66, l503, h66, h⟩ := pinv_call h (by decide +kernel : pins 152 66 = some (36, 69, 147, 0, [2]))
    have h66 : prun n503 147 0 (lv_args 0 [.ref t, .int hh]) [] σ2 = some (r66, s66) := h66
    obtain ⟨er66, S66, m66, j66, k66, ra66, rb66⟩ := pc_send y1.1 h66 HA2 HM2
    have er66 : r66 = none := er66
    subst er66
    try dsimp only at S66
    try dsimp only at m66
    try dsimp only at j66
    try dsimp only at k66
    try dsimp only at ra66
    try dsimp only at rb66
    have h : prun n503 152 69 [(4, .int c2), (0, .ref t), (1, .int hh), (2, .int life), (3, .int al)] [] s66 = some x := h
    have ex := u_ret37 h (by decide +kernel : pins 152 69 = some (37, 70, 0, 0, []))
    subst ex
    obtain ⟨a1, p, a2, _, _, a3⟩ := all_snd v2 F (fun _ => by have := y2.2; omega) m66 j66 k66 ra66 rb66
    obtain ⟨a3, a4⟩ := a3 (by rw [i1])
    refine ⟨rfl, ((((S2.tr S23).tr S29).tr y1).tr S66), a1, p, a2, a3, fun h0 h1 => ?_⟩
    exact absurd h0 c7
