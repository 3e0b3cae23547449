theorem toI_nat {x : Int32} (h : x.toBitVec.toNat < 2147483648) : x.toInt = x.toBitVec.toNat := by
  have e := BitVec.toInt_eq_toNat_cond x.toBitVec
  have : x.toBitVec.toInt = x.toInt := rfl
  rw [← this, e, if_pos (by omega)]
theorem nat_toI {x : Int32} (h : 0 ≤ x.toInt) : (x.toBitVec.toNat : Int) = x.toInt := by
  have e := BitVec.toInt_eq_toNat_cond x.toBitVec
  have : x.toBitVec.toInt = x.toInt := rfl
  rw [this] at e
  have := x.toBitVec.isLt
  split at e <;> omega
theorem shl8 (p : Int32) : (p <<< (8 : Int32)).toBitVec.toNat = p.toBitVec.toNat * 256 % 4294967296 := by
  rw [Int32.toBitVec_shiftLeft]
  have : (8 : Int32).toBitVec.smod 32 = 8#32 := by decide
  rw [this]
  show (p.toBitVec <<< (8#32).toNat).toNat = _
  rw [BitVec.toNat_shiftLeft]
  show p.toBitVec.toNat <<< 8 % 2 ^ 32 = _
  rw [Nat.shiftLeft_eq]
theorem or_low {v b : Int32} (h0 : 0 ≤ b.toInt) (h1 : b.toInt ≤ 255) (h : ((v <<< (8 : Int32)) ||| b).toInt = 1) : b.toInt = 1 := by
  have e : ((v <<< (8 : Int32)) ||| b) = 1 := Int32.toInt_inj.mp (by rw [h]; decide)
  have e2 : ((v <<< (8 : Int32)) ||| b).toBitVec.toNat % 2 ^ 8 = 1 := by rw [e]; decide
  rw [Int32.toBitVec_or, BitVec.toNat_or, Nat.or_mod_two_pow, shl8] at e2
  have z : v.toBitVec.toNat * 256 % 4294967296 % 2 ^ 8 = 0 := by omega
  rw [z, Nat.zero_or] at e2
  have := nat_toI h0
  omega
theorem or_pos {p b : Int32} (h0 : 0 ≤ p.toInt) (h1 : p.toInt ≤ 255) (h2 : 0 ≤ b.toInt) (h3 : b.toInt ≤ 255) : 0 ≤ ((p <<< (8 : Int32)) ||| b).toInt := by
  have n1 := nat_toI h0
  have n2 := nat_toI h2
  have hlt : ((p <<< (8 : Int32)) ||| b).toBitVec.toNat < 2 ^ 16 := by
    rw [Int32.toBitVec_or, BitVec.toNat_or, shl8]
    exact Nat.or_lt_two_pow (by omega) (by omega)
  rw [toI_nat (by omega)]
  omega
/-- a step of reading: beside at, good and what was got nothing changes -/
def PS (V V' : Nat → Nat → Value) : Prop := (∀ j q : Nat, ¬ (59 ≤ j ∧ j ≤ 67) → V' j q = V j q) ∧ (¬ gI V' 60 0 = 0 → ¬ gI V 60 0 = 0) ∧ (JV V → JV V')
theorem PS.rf {V : Nat → Nat → Value} : PS V V := ⟨fun _ _ _ => rfl, fun h => h, fun h => h⟩
theorem PS.tr {V V1 V2 : Nat → Nat → Value} (h : PS V V1) (h1 : PS V1 V2) : PS V V2 := ⟨fun j q hj => (h1.1 j q hj).trans (h.1 j q hj), fun g => h.2.1 (h1.2.1 g), fun j => h1.2.2 (h.2.2 j)⟩
theorem JV.of {V V' : Nat → Nat → Value} (h57 : ∀ q, V' 57 q = V 57 q) (h61 : ∀ q, V' 61 q = V 61 q) (J : JV V) : JV V' := by
  have e57 : ∀ q, gI V' 57 q = gI V 57 q := fun q => by unfold gI; rw [h57]
  intro p hp
  rw [show gI V' 61 p = gI V 61 p by unfold gI; rw [h61]]
  intro hm
  obtain ⟨a1, a2, a3, a4⟩ := J p hp hm
  rw [e57 p]
  exact ⟨a1, a2, a3, fun d d1 d2 => by rw [e57]; exact a4 d d1 d2⟩
theorem PS.upr {V : Nat → Nat → Value} {j i : Nat} {v : Value} (h1 : 62 ≤ j ∨ j = 59) (h2 : j ≤ 67) : PS V (up V j i v) := ⟨fun j' q hj => up_ne (by omega), fun g => by rw [gI_ne (by omega)] at g; exact g, fun J => JV.of (fun q => up_ne (by omega)) (fun q => up_ne (by omega)) J⟩
theorem PS.bad {V : Nat → Nat → Value} {v : Int32} (hv : v = 0) : PS V (up V 60 0 (.int v)) := ⟨fun j' q hj => up_ne (by omega), fun g => by rw [gI_sc (by decide), hv] at g; exact absurd rfl g, fun J => JV.of (fun q => up_ne (by decide)) (fun q => up_ne (by decide)) J⟩
/-- bytes of the packet, its size -/
def PB (V : Nat → Nat → Value) : Prop := (∀ q : Nat, q < 200 → 0 ≤ (gI V 57 q).toInt ∧ (gI V 57 q).toInt ≤ 255) ∧ (gI V 58 0).toInt ≤ 200
theorem PB.of {V V' : Nat → Nat → Value} (h : PS V V') (b : PB V) : PB V' := by
  refine ⟨fun q hq => ?_, ?_⟩
  · have : gI V' 57 q = gI V 57 q := by unfold gI; rw [h.1 57 q (by decide)]
    rw [this]; exact b.1 q hq
  · have : gI V' 58 0 = gI V 58 0 := by unfold gI; rw [h.1 58 0 (by decide)]
    rw [this]; exact b.2
/-- got and the lives are kept -/
def KG (V V' : Nat → Nat → Value) : Prop := ∀ q : Nat, V' 62 q = V 62 q ∧ V' 66 q = V 66 q ∧ V' 64 q = V 64 q
theorem KG.rf {V : Nat → Nat → Value} : KG V V := fun _ => ⟨rfl, rfl, rfl⟩
theorem KG.tr {V V1 V2 : Nat → Nat → Value} (h : KG V V1) (h1 : KG V1 V2) : KG V V2 := fun q => ⟨(h1 q).1.trans (h q).1, (h1 q).2.1.trans (h q).2.1, (h1 q).2.2.trans (h q).2.2⟩
theorem KG.upr {V : Nat → Nat → Value} {j i : Nat} {v : Value} (h : ¬ j = 62) (h1 : ¬ j = 66) (h2 : ¬ j = 64) : KG V (up V j i v) := fun q => ⟨up_ne (fun e => h e.symm), up_ne (fun e => h1 e.symm), up_ne (fun e => h2 e.symm)⟩
/-- take's two ends -/
theorem take_ps {V V' : Nat → Nat → Value} {w : Int32} {P : Prop} (f : (w = 0 ∧ V' = up V 60 0 (.int 0)) ∨ (P ∧ ∃ a : Int32, V' = up V 59 0 (.int a))) : PS V V' ∧ KG V V' := by
  rcases f with ⟨_, e⟩ | ⟨_, a, e⟩
  · rw [e]; exact ⟨PS.bad rfl, KG.upr (by decide) (by decide) (by decide)⟩
  · rw [e]; exact ⟨PS.upr (Or.inr rfl) (by decide), KG.upr (by decide) (by decide) (by decide)⟩
theorem pc_takeAddress {t n : Nat} {A : Nat → Nat}  {σ : ps} {x : Option Value × ps} (W : Wld t A σ) (h : prun n 169 0 (lv_args 0 [.ref t]) [] σ = some x) (hB : PB (vw t A σ)) : ∃ w : Int32, x.1 = some (.int w) ∧ SP t A σ x.2 ∧ PS (vw t A σ) (vw t A x.2) ∧ KG (vw t A σ) (vw t A x.2) ∧ 0 ≤ w.toInt := by
  have h : prun n 169 0 [(0, .ref t)] [] σ = some x := h
  obtain ⟨n1, l1, h⟩ := v_al h (by decide +kernel : pins 169 0 = some (5, 1, 0, 0, [])) (v := t) rfl
  obtain ⟨n2, w1, l2, ⟨e1, i1⟩, h⟩ := u_ic h (by decide +kernel : pins 169 1 = some (0, 2, 2, 0, [])) (by decide)
  obtain ⟨n3, r2, s2, l3, h2, h⟩ := pinv_call h (by decide +kernel : pins 169 2 = some (36, 5, 168, 0, [2]))
  have h2 : prun n3 168 0 (lv_args 0 [.ref t, .int w1]) [] σ = some (r2, s2) := h2
  obtain ⟨w2, er2, S2, f2⟩ := take_2 W h2 e1
  have er2 : r2 = some (.int w2) := er2
  subst er2
  try dsimp only at S2
  try dsimp only at f2
  obtain ⟨ps2, kg2⟩ : PS (vw t A σ) (vw t A s2) ∧ KG (vw t A σ) (vw t A s2) := take_ps (P := True) (f2.imp_right (fun q => ⟨trivial, q.2.2.2.2.imp (fun _ z => z.2)⟩))
  have h : prun n3 169 5 [(0, .ref t)] [.int w2] s2 = some x := h
  obtain ⟨n4, l4, h⟩ := v_is h (by decide +kernel : pins 169 5 = some (6, 6, 1, 0, []))
  have h : prun n4 169 6 [(1, .int w2), (0, .ref t)] [] s2 = some x := h
  obtain ⟨n5, l5, h⟩ := v_il h (by decide +kernel : pins 169 6 = some (3, 7, 1, 0, [])) (v := w2) rfl
  obtain ⟨n6, w7, l6, ⟨e7, i7⟩, h⟩ := u_ic h (by decide +kernel : pins 169 7 = some (0, 10, 65024, 0, [])) (by decide)
  obtain ⟨n7, l7, ⟨c10, h⟩ | ⟨c10, h⟩⟩ := u_ic2 h (by decide +kernel : pins 169 10 = some (17, 13, 2, ((18 : Nat) : Int), []))
  · obtain ⟨n8, l8, h⟩ := v_il h (by decide +kernel : pins 169 18 = some (3, 19, 1, 0, [])) (v := w2) rfl
    have ex := u_ret38 h (by decide +kernel : pins 169 19 = some (38, 20, 0, 0, []))
    subst ex
    have hw0 : 0 ≤ w2.toInt := by
      rcases f2 with ⟨e, _⟩ | ⟨a1, a2, a3, a4, _⟩
      · rw [e]; decide
      · rw [a4]
        have b1 := hB.1 (gI (vw t A σ) 59 0).toNatClampNeg (by show (gI (vw t A σ) 59 0).toInt.toNat < 200; omega)
        have b2 := hB.1 ((gI (vw t A σ) 59 0).toInt + 1).toNat (by have := hB.2; omega)
        exact or_pos b1.1 b1.2 b2.1 b2.2
    exact ⟨_, rfl, S2, ps2, kg2, hw0⟩
  · obtain ⟨n10, l10, h⟩ := v_al h (by decide +kernel : pins 169 13 = some (5, 14, 0, 0, [])) (v := t) rfl
    obtain ⟨n11, w14, l11, ⟨e14, i14⟩, h⟩ := u_ic h (by decide +kernel : pins 169 14 = some (0, 15, 0, 0, [])) (by decide)
    obtain ⟨n12, s15, l12, S15, u15, h⟩ := w_put (k := 60) S2.1 h (by decide +kernel : pins 169 15 = some (23, 18, 13, 60, [])) (by decide)
    obtain ⟨n13, l13, h⟩ := v_il h (by decide +kernel : pins 169 18 = some (3, 19, 1, 0, [])) (v := w2) rfl
    have ex := u_ret38 h (by decide +kernel : pins 169 19 = some (38, 20, 0, 0, []))
    subst ex
    have hw0 : 0 ≤ w2.toInt := by
      rcases f2 with ⟨e, _⟩ | ⟨a1, a2, a3, a4, _⟩
      · rw [e]; decide
      · rw [a4]
        have b1 := hB.1 (gI (vw t A σ) 59 0).toNatClampNeg (by show (gI (vw t A σ) 59 0).toInt.toNat < 200; omega)
        have b2 := hB.1 ((gI (vw t A σ) 59 0).toInt + 1).toNat (by have := hB.2; omega)
        exact or_pos b1.1 b1.2 b2.1 b2.2
    refine ⟨_, rfl, (S2.tr S15), ps2.tr ?_, kg2.tr ?_, hw0⟩
    · show PS (vw t A s2) (vw t A s15)
      rw [u15]; exact PS.bad e14
    · show KG (vw t A s2) (vw t A s15)
      rw [u15]; exact KG.upr (by decide) (by decide) (by decide)
/-- takeWord as a step of reading -/
theorem tw_ps {V V' : Nat → Nat → Value} {k i : Nat} (hk : k = 62 ∨ k = 63) (f : ∀ j q, ¬ j = k → ¬ j = 59 → ¬ j = 60 → ¬ j = 61 → V' j q = V j q) (g : ¬ gI V' 60 0 = 0 → ¬ gI V 60 0 = 0 ∧ Wok V' k i) (J : JV V') : PS V V' := ⟨fun j q hj => f j q (by omega) (by omega) (by omega) (by omega), fun h => (g h).1, fun _ => J⟩
theorem pc_takeTold {t n : Nat} {A : Nat → Nat} {k sort : Int32} {σ : ps} {x : Option Value × ps} (W : Wld t A σ) (h : prun n 171 0 (lv_args 0 [.ref t, .int k, .int sort]) [] σ = some x) (hB : PB (vw t A σ)) (J : JV (vw t A σ)) (hk : 0 ≤ k.toInt ∧ k.toInt ≤ 15) : x.1 = none ∧ SP t A σ x.2 ∧ PS (vw t A σ) (vw t A x.2) ∧ KG (vw t A σ) (vw t A x.2) := by
  have h : prun n 171 0 [(0, .ref t), (1, .int k), (2, .int sort)] [] σ = some x := h
  obtain ⟨n1, l1, h⟩ := v_il h (by decide +kernel : pins 171 0 = some (3, 1, 2, 0, [])) (v := sort) rfl
  obtain ⟨n2, w1, l2, ⟨e1, i1⟩, h⟩ := u_ic h (by decide +kernel : pins 171 1 = some (0, 2, 1, 0, [])) (by decide)
  obtain ⟨n3, l3, ⟨c2, h⟩ | ⟨c2, h⟩⟩ := u_ic1 h (by decide +kernel : pins 171 2 = some (17, 5, 1, ((18 : Nat) : Int), []))
  · obtain ⟨n4, l4, h⟩ := v_al h (by decide +kernel : pins 171 18 = some (5, 19, 0, 0, [])) (v := t) rfl
    obtain ⟨n5, l5, h⟩ := v_al h (by decide +kernel : pins 171 19 = some (5, 20, 0, 0, [])) (v := t) rfl
    obtain ⟨n6, l6, h⟩ := w_row (k := 63) W h (by decide +kernel : pins 171 20 = some (22, 23, 13, 63, [])) (by decide)
    obtain ⟨n7, w23, l7, ⟨e23, i23⟩, h⟩ := u_ic h (by decide +kernel : pins 171 23 = some (0, 25, 16, 0, [])) (by decide)
    obtain ⟨n8, l8, h⟩ := v_il h (by decide +kernel : pins 171 25 = some (3, 26, 1, 0, [])) (v := k) rfl
    obtain ⟨n9, w26, l9, e26, h⟩ := u_mul h (by decide +kernel : pins 171 26 = some (10, 27, 2, 0, []))
    obtain ⟨n10, r27, s27, l10, h27, h⟩ := pinv_call h (by decide +kernel : pins 171 27 = some (36, 30, 170, 0, [3]))
    have h27 : prun n10 170 0 (lv_args 0 [.ref t, .ref (A 63), .int w26]) [] σ = some (r27, s27) := h27
    obtain ⟨er27, S27, f27, z27, g27, J27⟩ := takeWord_ W h27 (by decide) (by rw [e26, n_mul (by rw [i23]; omega) (by rw [i23]; omega), i23]; omega) (hB.2) (J)
    have er27 : r27 = none := er27
    subst er27
    try dsimp only at S27
    try dsimp only at f27
    try dsimp only at z27
    try dsimp only at g27
    try dsimp only at J27
    have ps27 : PS (vw t A σ) (vw t A s27) := tw_ps (k := 63) (by decide) f27 g27 J27
    have h : prun n10 171 30 [(0, .ref t), (1, .int k), (2, .int sort)] [] s27 = some x := h
    obtain ⟨n11, l11, h⟩ := v_al h (by decide +kernel : pins 171 30 = some (5, 31, 0, 0, [])) (v := t) rfl
    obtain ⟨n12, l12, h⟩ := w_row (k := 67) S27.1 h (by decide +kernel : pins 171 31 = some (22, 34, 13, 67, [])) (by decide)
    obtain ⟨n13, l13, h⟩ := v_il h (by decide +kernel : pins 171 34 = some (3, 35, 1, 0, [])) (v := k) rfl
    obtain ⟨n14, l14, h⟩ := v_al h (by decide +kernel : pins 171 35 = some (5, 36, 0, 0, [])) (v := t) rfl
    obtain ⟨n15, w36, l15, ⟨e36, i36⟩, h⟩ := u_ic h (by decide +kernel : pins 171 36 = some (0, 37, 2, 0, [])) (by decide)
    obtain ⟨n16, r37, s37, l16, h37, h⟩ := pinv_call h (by decide +kernel : pins 171 37 = some (36, 40, 168, 0, [2]))
    have h37 : prun n16 168 0 (lv_args 0 [.ref t, .int w36]) [] s27 = some (r37, s37) := h37
    obtain ⟨w37, er37, S37, f37⟩ := take_2 S27.1 h37 e36
    have er37 : r37 = some (.int w37) := er37
    subst er37
    try dsimp only at S37
    try dsimp only at f37
    obtain ⟨ps37, kg37⟩ : PS (vw t A s27) (vw t A s37) ∧ KG (vw t A s27) (vw t A s37) := take_ps (P := True) (f37.imp_right (fun q => ⟨trivial, q.2.2.2.2.imp (fun _ z => z.2)⟩))
    have h : prun n16 171 40 [(0, .ref t), (1, .int k), (2, .int sort)] [.int w37, .int k, .ref (A 67)] s37 = some x := h
    obtain ⟨n17, s40, l17, b40, S40, u40, h⟩ := w_iast S37.1 h (by decide +kernel : pins 171 40 = some (28, 41, 0, 0, [])) (by decide)
    have ex := u_ret37 h (by decide +kernel : pins 171 41 = some (37, 42, 0, 0, []))
    subst ex
    have e40 : PS (vw t A s37) (vw t A s40) := by rw [u40]; exact PS.upr (Or.inl (by decide)) (by decide)
    have k27 : KG (vw t A σ) (vw t A s27) := fun q => ⟨f27 62 q (by decide) (by decide) (by decide) (by decide), f27 66 q (by decide) (by decide) (by decide) (by decide), f27 64 q (by decide) (by decide) (by decide) (by decide)⟩
    have k40 : KG (vw t A s37) (vw t A s40) := by rw [u40]; exact KG.upr (by decide) (by decide) (by decide)
    exact ⟨rfl, ((S27.tr S37).tr S40), (ps27.tr ps37).tr e40, (k27.tr kg37).tr k40⟩
  · obtain ⟨n19, l19, h⟩ := v_al h (by decide +kernel : pins 171 5 = some (5, 6, 0, 0, [])) (v := t) rfl
    obtain ⟨n20, l20, h⟩ := w_row (k := 67) W h (by decide +kernel : pins 171 6 = some (22, 9, 13, 67, [])) (by decide)
    obtain ⟨n21, l21, h⟩ := v_il h (by decide +kernel : pins 171 9 = some (3, 10, 1, 0, [])) (v := k) rfl
    obtain ⟨n22, l22, h⟩ := v_al h (by decide +kernel : pins 171 10 = some (5, 11, 0, 0, [])) (v := t) rfl
    obtain ⟨n23, r11, s11, l23, h11, h⟩ := pinv_call h (by decide +kernel : pins 171 11 = some (36, 14, 169, 0, [1]))
    have h11 : prun n23 169 0 (lv_args 0 [.ref t]) [] σ = some (r11, s11) := h11
    obtain ⟨w11, er11, S11, ps11, kg11, nn11⟩ := pc_takeAddress W h11 hB
    have er11 : r11 = some (.int w11) := er11
    subst er11
    try dsimp only at S11
    try dsimp only at ps11
    try dsimp only at kg11
    try dsimp only at nn11
    have h : prun n23 171 14 [(0, .ref t), (1, .int k), (2, .int sort)] [.int w11, .int k, .ref (A 67)] s11 = some x := h
    obtain ⟨n24, s14, l24, b14, S14, u14, h⟩ := w_iast S11.1 h (by decide +kernel : pins 171 14 = some (28, 15, 0, 0, [])) (by decide)
    obtain ⟨n25, l25, h⟩ := u_go h (by decide +kernel : pins 171 15 = some (20, 18, 0, ((41 : Nat) : Int), []))
    have ex := u_ret37 h (by decide +kernel : pins 171 41 = some (37, 42, 0, 0, []))
    subst ex
    have e14 : PS (vw t A s11) (vw t A s14) := by rw [u14]; exact PS.upr (Or.inl (by decide)) (by decide)
    have k14 : KG (vw t A s11) (vw t A s14) := by rw [u14]; exact KG.upr (by decide) (by decide) (by decide)
    exact ⟨rfl, (S11.tr S14), ps11.tr e14, kg11.tr k14⟩
def RecsN (h : Nat) : Nat → Nat → (Nat → Nat → Value) → (Nat → Nat → Value) → Prop
  | 0, _, V, V' => V' = V
  | m + 1, c, V, V' => ∃ Vm V1, Hst V Vm h ∧ Rec2 Vm V1 h (gI V 66 c) ∧ RecsN h m (c + 1) V1 V'
theorem Hst.keep {V V' : Nat → Nat → Value} {h : Nat} (H : Hst V V' h) {j q : Nat} (hj : ¬ (j = 8 ∨ j = 16 ∨ j = 17 ∨ j = 18 ∨ j = 19 ∨ j = 21)) : V' j q = V j q := by
  rcases H with e | ⟨_, R⟩ | ⟨_, R⟩
  · rw [e]
  · have R1 := R.1
    clear R
    exact R1 j q (by omega) (by omega)
  · have R1 := R.1
    clear R
    exact R1 j q (by omega)
theorem Hst.st {V V' : Nat → Nat → Value} {h : Nat} (H : Hst V V' h) (hS : (gI V 16 h).toInt ≤ 3) : (gI V' 16 h).toInt ≤ 3 := by
  rcases H with e | ⟨_, R⟩ | ⟨_, R⟩
  · rw [e]; exact hS
  · have := R.2.2.1; omega
  · have := R.2.1; omega
theorem pc_tk_r {t : Nat} {A : Nat → Nat} {hh kd nn a fr : Int32} (hh0 : 0 ≤ hh.toInt ∧ hh.toInt ≤ 7) (hk5 : kd.toInt = 5) (hn8 : nn.toInt ≤ 8) : ∀ (n : Nat) (c : Int32) (σ : ps) (x : Option Value × ps), Wld t A σ → (0 ≤ c.toInt ∧ (0 ≤ (gI (vw t A σ) 20 (16 * hh.toNatClampNeg)).toInt ∧ (gI (vw t A σ) 20 (16 * hh.toNatClampNeg)).toInt ≤ 15) ∧ (gI (vw t A σ) 16 hh.toNatClampNeg).toInt ≤ 3 ∧ (0 ≤ (gI (vw t A σ) 32 hh.toNatClampNeg).toInt ∧ (gI (vw t A σ) 32 hh.toNatClampNeg).toInt ≤ 24) ∧ ∀ k : Nat, c.toNatClampNeg ≤ k → (k : Int) < nn.toInt → Wok (vw t A σ) 62 (16 * k)) → prun n 172 469 [(6, .int c), (2, .int kd), (3, .int nn), (4, .int a), (5, .int fr), (0, .ref t), (1, .int hh)] [] σ = some x → ∃ w : Int32, x.1 = some (.int w) ∧ SP t A σ x.2 ∧ RecsN hh.toNatClampNeg (nn.toInt - c.toInt).toNat c.toNatClampNeg (vw t A σ) (vw t A x.2) := by
  intro n
  induction n using Nat.strongRecOn with
  | ind n ih =>
    intro c σ x W I h
    obtain ⟨hc, hw, hS, hE, hG⟩ := I
    obtain ⟨n1, l1, h⟩ := v_il h (by decide +kernel : pins 172 469 = some (3, 471, 6, 0, [])) (v := c) rfl
    obtain ⟨n2, l2, h⟩ := v_il h (by decide +kernel : pins 172 471 = some (3, 472, 3, 0, [])) (v := nn) rfl
    obtain ⟨n3, l3, ⟨c472, h⟩ | ⟨c472, h⟩⟩ := u_ic3 h (by decide +kernel : pins 172 472 = some (17, 475, 3, ((493 : Nat) : Int), []))
    · obtain ⟨n4, w493, l4, ⟨e493, i493⟩, h⟩ := u_ic h (by decide +kernel : pins 172 493 = some (0, 494, 1, 0, [])) (by decide)
      have ex := u_ret38 h (by decide +kernel : pins 172 494 = some (38, 495, 0, 0, []))
      subst ex
      refine ⟨_, rfl, SP.rf W, ?_⟩
      rw [show (nn.toInt - c.toInt).toNat = 0 by omega]
      rfl
    · obtain ⟨n6, l6, h⟩ := v_il h (by decide +kernel : pins 172 475 = some (3, 476, 2, 0, [])) (v := kd) rfl
      obtain ⟨n7, w476, l7, ⟨e476, i476⟩, h⟩ := u_ic h (by decide +kernel : pins 172 476 = some (0, 477, 5, 0, [])) (by decide)
      obtain ⟨n8, l8, ⟨c477, h⟩ | ⟨c477, h⟩⟩ := u_ic1 h (by decide +kernel : pins 172 477 = some (17, 480, 1, ((493 : Nat) : Int), []))
      · obtain ⟨n9, w493, l9, ⟨e493, i493⟩, h⟩ := u_ic h (by decide +kernel : pins 172 493 = some (0, 494, 1, 0, [])) (by decide)
        have ex := u_ret38 h (by decide +kernel : pins 172 494 = some (38, 495, 0, 0, []))
        subst ex
        refine ⟨_, rfl, SP.rf W, ?_⟩
        skip
        exact absurd hk5 (by omega)
      · obtain ⟨n11, l11, h⟩ := v_al h (by decide +kernel : pins 172 480 = some (5, 481, 0, 0, [])) (v := t) rfl
        obtain ⟨n12, l12, h⟩ := v_il h (by decide +kernel : pins 172 481 = some (3, 482, 1, 0, [])) (v := hh) rfl
        obtain ⟨n13, l13, h⟩ := v_il h (by decide +kernel : pins 172 482 = some (3, 484, 6, 0, [])) (v := c) rfl
        obtain ⟨n14, r484, s484, l14, h484, h⟩ := pinv_call h (by decide +kernel : pins 172 484 = some (36, 487, 178, 0, [3]))
        have h484 : prun n14 178 0 (lv_args 0 [.ref t, .int hh, .int c]) [] σ = some (r484, s484) := h484
        have cn : (c.toNatClampNeg : Int) = c.toInt := n_clamp hc
        obtain ⟨er484, S484, v484⟩ := pc_record W h484 hh0 ⟨by omega, by omega⟩ hw hS hE (hG c.toNatClampNeg (by omega) (by omega))
        have er484 : r484 = none := er484
        subst er484
        try dsimp only at S484
        try dsimp only at v484
        have h : prun n14 172 487 [(6, .int c), (2, .int kd), (3, .int nn), (4, .int a), (5, .int fr), (0, .ref t), (1, .int hh)] [] s484 = some x := h
        obtain ⟨n15, w487, l15, e487, h⟩ := u_inc h (by decide +kernel : pins 172 487 = some (9, 490, 6, 1, [])) (v := c) rfl
        have h : prun n15 172 490 [(6, .int w487), (2, .int kd), (3, .int nn), (4, .int a), (5, .int fr), (0, .ref t), (1, .int hh)] [] s484 = some x := h
        obtain ⟨n16, l16, h⟩ := u_go h (by decide +kernel : pins 172 490 = some (20, 493, 0, ((469 : Nat) : Int), []))
        have h := prun_lv h (lv' := [(6, .int w487), (2, .int kd), (3, .int nn), (4, .int a), (5, .int fr), (0, .ref t), (1, .int hh)]) (lvLe.cons (lvLe.cons (lvLe.cons (lvLe.cons (lvLe.cons (lvLe.cons (lvLe.cons lvLe.nil rfl) rfl) rfl) rfl) rfl) rfl) rfl) (by decide : ([6, 2, 3, 4, 5, 0, 1] : List Nat).Nodup) (by decide : ([6, 2, 3, 4, 5, 0, 1] : List Nat).Nodup)
        obtain ⟨Vm, H, R⟩ := v484
        have q487 : w487.toInt = c.toInt + 1 := addc e487 (by decide : (Int32.ofInt 1).toInt = 1) (by omega) (by omega) (by decide) (by decide)
        have cn1 : w487.toNatClampNeg = c.toNatClampNeg + 1 := by rw [clampc q487 (by omega)]; omega
        have k20 : gI (vw t A s484) 20 (16 * hh.toNatClampNeg) = gI (vw t A σ) 20 (16 * hh.toNatClampNeg) := by unfold gI; rw [R.1 20 _ (by decide), H.keep (by decide)]
        have k16 : gI (vw t A s484) 16 hh.toNatClampNeg = gI Vm 16 hh.toNatClampNeg := by unfold gI; rw [R.1 16 _ (by decide)]
        have k62 : ∀ q, gI (vw t A s484) 62 q = gI (vw t A σ) 62 q := fun q => by unfold gI; rw [R.1 62 _ (by decide), H.keep (by decide)]
        obtain ⟨w, y1, y2, y3⟩ := ih n16 (by omega) _ _ x S484.1 ⟨by omega, by rw [k20]; exact hw, by rw [k16]; exact H.st hS, R.2.2.2.2.1, fun k k1 k2 => ⟨by rw [k62]; exact (hG k (by omega) k2).1, fun d d1 d2 => by
          rw [k62] at d2 ⊢
          exact (hG k (by omega) k2).2 d d1 d2⟩⟩ h
        refine ⟨w, y1, S484.tr y2, ?_⟩
        rw [show (nn.toInt - c.toInt).toNat = (nn.toInt - w487.toInt).toNat + 1 by omega]
        exact ⟨Vm, _, H, R, by rw [← cn1]; exact y3⟩
