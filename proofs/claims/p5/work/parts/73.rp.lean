theorem send_snd5 {V V' : Nat → Nat → Value} (h1 : 1 ≤ (gI V 53 0).toInt) (h200 : (gI V 53 0).toInt ≤ 200) (f : ∀ j q : Nat, ¬ j = 42 → ¬ j = 43 → ¬ j = 44 → ¬ j = 45 → ¬ j = 47 → ¬ j = 48 → ¬ j = 49 → ¬ j = 50 → V' j q = V j q) (hm : (gI V' 47 0).toInt = (gI V 47 0).toInt + 1)
    (r1 : ∀ q : Nat, ¬ (200 * slt V ≤ q ∧ (q : Int) < 200 * (slt V : Int) + (gI V 53 0).toInt) → V' 42 q = V 42 q) (r2 : ∀ e : Nat, (e : Int) < (gI V 53 0).toInt → gI V' 42 (200 * slt V + e) = gI V 52 e) (h5 : (gI V 52 0).toInt = 5) :
    FrS V V' ∧ ∃ p, Snd V V' p ∧ (p = 1 ∨ p = 2521) := by
  refine ⟨fun j q hj => f j q (by omega) (by omega) (by omega) (by omega) (by omega) (by omega) (by omega) (by omega), pk V' (slt V), ⟨?_, hm, fun s hs => ?_, rfl⟩, ?_⟩
  · unfold gI; rw [f 46 0 (by decide) (by decide) (by decide) (by decide) (by decide) (by decide) (by decide) (by decide)]
  · unfold pk gI
    rw [r1 _ (by omega), r1 _ (by omega), r1 _ (by omega)]
  · have e0 := r2 0 (by omega)
    rw [Nat.add_zero] at e0
    unfold pk pkc
    rw [e0, if_neg (by omega)]
    split
    · exact Or.inr rfl
    · exact Or.inl rfl
theorem all_snd5 {V V1 V2 V3 : Nat → Nat → Value} {c : Int32} (e : V1 = up (up (up V 52 0 (.int c)) 53 0 (.int 1)) 55 0 (.int 0)) (F : FrO V1 V2) (h5 : c.toInt = 5) (m : (gI V2 53 0).toInt ≤ 200) (f : ∀ j q : Nat, ¬ j = 42 → ¬ j = 43 → ¬ j = 44 → ¬ j = 45 → ¬ j = 47 → ¬ j = 48 → ¬ j = 49 → ¬ j = 50 → V3 j q = V2 j q) (hm : (gI V3 47 0).toInt = (gI V2 47 0).toInt + 1)
    (r1 : ∀ q : Nat, ¬ (200 * slt V2 ≤ q ∧ (q : Int) < 200 * (slt V2 : Int) + (gI V2 53 0).toInt) → V3 42 q = V2 42 q) (r2 : ∀ e : Nat, (e : Int) < (gI V2 53 0).toInt → gI V3 42 (200 * slt V2 + e) = gI V2 52 e) :
    FrS V V3 ∧ ∃ p, Snd V V3 p ∧ (p = 1 ∨ p = 2521) := by
  obtain ⟨b1, b2, b3, b4, b5, b6⟩ := begin_ok e
  obtain ⟨c1, c2, c3⟩ := F.ring
  have o0 : gI V2 52 0 = c := by rw [FrO.out F (by rw [b2]; decide), b1]
  have s1 : 1 ≤ (gI V2 53 0).toInt := by have := F.2; omega
  obtain ⟨d1, p, d2, d3⟩ := send_snd5 s1 m f hm r1 r2 (by rw [o0]; exact h5)
  exact ⟨(b3.tr F.s).tr d1, p, Snd.of (c1.trans b4) (c2.trans b5) (fun s => (c3 s).trans (b6 s)) d2, d3⟩
def ShL (V V' : Nat → Nat → Value) (j c : Nat) (e : Int) : Prop := (∀ q : Nat, c ≤ q → (q : Int) < e → gL V' j q = gL V j (q + 1)) ∧ ∀ q : Nat, ¬ (c ≤ q ∧ (q : Int) < e) → gL V' j q = gL V j q
def ShI (V V' : Nat → Nat → Value) (j c : Nat) (e : Int) : Prop := (∀ q : Nat, c ≤ q → (q : Int) < e → gI V' j q = gI V j (q + 1)) ∧ ∀ q : Nat, ¬ (c ≤ q ∧ (q : Int) < e) → gI V' j q = gI V j q
theorem ShL.rf {V : Nat → Nat → Value} {j c : Nat} {e : Int} (h : e ≤ c) : ShL V V j c e := ⟨fun q h1 h2 => by omega, fun _ _ => rfl⟩
theorem ShI.rf {V : Nat → Nat → Value} {j c : Nat} {e : Int} (h : e ≤ c) : ShI V V j c e := ⟨fun q h1 h2 => by omega, fun _ _ => rfl⟩
theorem ShL.tr {V V1 V2 : Nat → Nat → Value} {j c : Nat} {e : Int} (hc : (c : Int) < e) (h0 : gL V1 j c = gL V j (c + 1)) (h1 : ∀ q, ¬ q = c → gL V1 j q = gL V j q) (h : ShL V1 V2 j (c + 1) e) : ShL V V2 j c e := by
  refine ⟨fun q a b => ?_, fun q a => ?_⟩
  · by_cases eq : q = c
    · subst eq
      rw [h.2 q (by omega), h0]
    · rw [h.1 q (by omega) b, h1 (q + 1) (by omega)]
  · rw [h.2 q (by omega), h1 q (by omega)]
theorem ShI.tr {V V1 V2 : Nat → Nat → Value} {j c : Nat} {e : Int} (hc : (c : Int) < e) (h0 : gI V1 j c = gI V j (c + 1)) (h1 : ∀ q, ¬ q = c → gI V1 j q = gI V j q) (h : ShI V1 V2 j (c + 1) e) : ShI V V2 j c e := by
  refine ⟨fun q a b => ?_, fun q a => ?_⟩
  · by_cases eq : q = c
    · subst eq
      rw [h.2 q (by omega), h0]
    · rw [h.1 q (by omega) b, h1 (q + 1) (by omega)]
  · rw [h.2 q (by omega), h1 q (by omega)]
def Rp1 (V V' : Nat → Nat → Value) (h : Nat) (r : Int) : Prop := ∃ V1, (V1 = V ∨ (FrS V V1 ∧ ∃ p, Snd V V1 p ∧ (p = 1 ∨ p = 2521))) ∧ (gI V' 31 h).toInt = (gI V 31 h).toInt - 1 ∧ (∀ j q : Nat, ¬ j = 29 → ¬ j = 30 → ¬ (j = 31 ∧ q = h) → V' j q = V1 j q) ∧ ShL V1 V' 30 (4 * h + r.toNat) (4 * (h : Int) + (gI V 31 h).toInt - 1)
theorem pc_rp_a {t : Nat} {A : Nat → Nat} {hh r k : Int32} : ∀ (n : Nat) (c n0 : Int32) (σ : ps) (x : Option Value × ps), Wld t A σ → (True) → prun n 161 12 [(5, .int c), (4, .int n0), (3, .int k), (0, .ref t), (1, .int hh), (2, .int r)] [] σ = some x → ∃ (m : Nat) (c2 n2 : Int32), prun m 161 67 [(5, .int c2), (4, .int n2), (3, .int k), (0, .ref t), (1, .int hh), (2, .int r)] [] σ = some x := by
  intro n
  induction n using Nat.strongRecOn with
  | ind n ih =>
    intro c n0 σ x W I h
    obtain ⟨n1, l1, h⟩ := v_il h (by decide +kernel : pins 161 12 = some (3, 14, 5, 0, [])) (v := c) rfl
    obtain ⟨n2, l2, h⟩ := v_al h (by decide +kernel : pins 161 14 = some (5, 15, 0, 0, [])) (v := t) rfl
    obtain ⟨n3, l3, h⟩ := w_row (k := 24) W h (by decide +kernel : pins 161 15 = some (22, 18, 13, 24, [])) (by decide)
    obtain ⟨n4, l4, h⟩ := v_il h (by decide +kernel : pins 161 18 = some (3, 19, 1, 0, [])) (v := hh) rfl
    obtain ⟨n5, w19, l5, b19, e19, h⟩ := w_iald W h (by decide +kernel : pins 161 19 = some (24, 20, 0, 0, [])) (by decide)
    obtain ⟨n6, l6, ⟨c20, h⟩ | ⟨c20, h⟩⟩ := u_ic3 h (by decide +kernel : pins 161 20 = some (17, 23, 3, ((67 : Nat) : Int), []))
    · have h := prun_lv h (lv' := [(5, .int c), (4, .int n0), (3, .int k), (0, .ref t), (1, .int hh), (2, .int r)]) (lvLe.cons (lvLe.cons (lvLe.cons (lvLe.cons (lvLe.cons (lvLe.cons lvLe.nil rfl) rfl) rfl) rfl) rfl) rfl) (by decide : ([5, 4, 3, 0, 1, 2] : List Nat).Nodup) (by decide : ([5, 4, 3, 0, 1, 2] : List Nat).Nodup)
      exact ⟨_, _, _, h⟩
    · obtain ⟨n7, l7, h⟩ := v_il h (by decide +kernel : pins 161 23 = some (3, 25, 4, 0, [])) (v := n0) rfl
      obtain ⟨n8, l8, h⟩ := v_al h (by decide +kernel : pins 161 25 = some (5, 26, 0, 0, [])) (v := t) rfl
      obtain ⟨n9, l9, h⟩ := w_row (k := 22) W h (by decide +kernel : pins 161 26 = some (22, 29, 13, 22, [])) (by decide)
      obtain ⟨n10, w29, l10, ⟨e29, i29⟩, h⟩ := u_ic h (by decide +kernel : pins 161 29 = some (0, 31, 64, 0, [])) (by decide)
      obtain ⟨n11, l11, h⟩ := v_il h (by decide +kernel : pins 161 31 = some (3, 32, 1, 0, [])) (v := hh) rfl
      obtain ⟨n12, w32, l12, e32, h⟩ := u_mul h (by decide +kernel : pins 161 32 = some (10, 33, 2, 0, []))
      obtain ⟨n13, w33, l13, ⟨e33, i33⟩, h⟩ := u_ic h (by decide +kernel : pins 161 33 = some (0, 35, 16, 0, [])) (by decide)
      obtain ⟨n14, l14, h⟩ := v_il h (by decide +kernel : pins 161 35 = some (3, 37, 5, 0, [])) (v := c) rfl
      obtain ⟨n15, w37, l15, e37, h⟩ := u_mul h (by decide +kernel : pins 161 37 = some (10, 38, 2, 0, []))
      obtain ⟨n16, w38, l16, e38, h⟩ := u_add h (by decide +kernel : pins 161 38 = some (10, 39, 0, 0, []))
      obtain ⟨n17, l17, h⟩ := v_al h (by decide +kernel : pins 161 39 = some (5, 40, 0, 0, [])) (v := t) rfl
      obtain ⟨n18, l18, h⟩ := w_row (k := 29) W h (by decide +kernel : pins 161 40 = some (22, 43, 13, 29, [])) (by decide)
      obtain ⟨n19, w43, l19, ⟨e43, i43⟩, h⟩ := u_ic h (by decide +kernel : pins 161 43 = some (0, 45, 16, 0, [])) (by decide)
      obtain ⟨n20, l20, h⟩ := v_il h (by decide +kernel : pins 161 45 = some (3, 46, 3, 0, [])) (v := k) rfl
      obtain ⟨n21, w46, l21, e46, h⟩ := u_mul h (by decide +kernel : pins 161 46 = some (10, 47, 2, 0, []))
      obtain ⟨n22, r47, s47, l22, h47, h⟩ := pinv_call h (by decide +kernel : pins 161 47 = some (36, 50, 140, 1, [4]))
      have h47 : prun n22 140 0 (lv_args 0 [.ref (A 22), .int w38, .ref (A 29), .int w46]) [] σ = some (r47, s47) := h47
      obtain ⟨es47, w47, er47, f47⟩ := pc_alike0 W h47 (by decide) (by decide)
      have er47 : r47 = some (.int w47) := er47
      have et47 : s47 = σ := es47
      rw [et47] at h
      subst er47
      have h : prun n22 161 50 [(5, .int c), (4, .int n0), (3, .int k), (0, .ref t), (1, .int hh), (2, .int r)] [.int w47, .int n0] σ = some x := h
      obtain ⟨n23, l23, ⟨c50, h⟩ | ⟨c50, h⟩⟩ := u_if0 h (by decide +kernel : pins 161 50 = some (16, 53, 0, ((57 : Nat) : Int), []))
      · obtain ⟨n24, w57, l24, ⟨e57, i57⟩, h⟩ := u_ic h (by decide +kernel : pins 161 57 = some (0, 58, 0, 0, [])) (by decide)
        obtain ⟨n25, w58, l25, e58, h⟩ := u_add h (by decide +kernel : pins 161 58 = some (10, 59, 0, 0, []))
        obtain ⟨n26, l26, h⟩ := v_is h (by decide +kernel : pins 161 59 = some (6, 61, 4, 0, []))
        have h : prun n26 161 61 [(4, .int w58), (5, .int c), (3, .int k), (0, .ref t), (1, .int hh), (2, .int r)] [] σ = some x := h
        obtain ⟨n27, w61, l27, e61, h⟩ := u_inc h (by decide +kernel : pins 161 61 = some (9, 64, 5, 1, [])) (v := c) rfl
        have h : prun n27 161 64 [(5, .int w61), (4, .int w58), (3, .int k), (0, .ref t), (1, .int hh), (2, .int r)] [] σ = some x := h
        obtain ⟨n28, l28, h⟩ := u_go h (by decide +kernel : pins 161 64 = some (20, 67, 0, ((12 : Nat) : Int), []))
        have h := prun_lv h (lv' := [(5, .int w61), (4, .int w58), (3, .int k), (0, .ref t), (1, .int hh), (2, .int r)]) (lvLe.cons (lvLe.cons (lvLe.cons (lvLe.cons (lvLe.cons (lvLe.cons lvLe.nil rfl) rfl) rfl) rfl) rfl) rfl) (by decide : ([5, 4, 3, 0, 1, 2] : List Nat).Nodup) (by decide : ([5, 4, 3, 0, 1, 2] : List Nat).Nodup)
        exact ih n28 (by omega) _ _ _ x W trivial h
      · obtain ⟨n29, w53, l29, ⟨e53, i53⟩, h⟩ := u_ic h (by decide +kernel : pins 161 53 = some (0, 54, 1, 0, [])) (by decide)
        obtain ⟨n30, l30, h⟩ := u_go h (by decide +kernel : pins 161 54 = some (20, 57, 0, ((58 : Nat) : Int), []))
        obtain ⟨n31, w58, l31, e58, h⟩ := u_add h (by decide +kernel : pins 161 58 = some (10, 59, 0, 0, []))
        obtain ⟨n32, l32, h⟩ := v_is h (by decide +kernel : pins 161 59 = some (6, 61, 4, 0, []))
        have h : prun n32 161 61 [(4, .int w58), (5, .int c), (3, .int k), (0, .ref t), (1, .int hh), (2, .int r)] [] σ = some x := h
        obtain ⟨n33, w61, l33, e61, h⟩ := u_inc h (by decide +kernel : pins 161 61 = some (9, 64, 5, 1, [])) (v := c) rfl
        have h : prun n33 161 64 [(5, .int w61), (4, .int w58), (3, .int k), (0, .ref t), (1, .int hh), (2, .int r)] [] σ = some x := h
        obtain ⟨n34, l34, h⟩ := u_go h (by decide +kernel : pins 161 64 = some (20, 67, 0, ((12 : Nat) : Int), []))
        have h := prun_lv h (lv' := [(5, .int w61), (4, .int w58), (3, .int k), (0, .ref t), (1, .int hh), (2, .int r)]) (lvLe.cons (lvLe.cons (lvLe.cons (lvLe.cons (lvLe.cons (lvLe.cons lvLe.nil rfl) rfl) rfl) rfl) rfl) rfl) (by decide : ([5, 4, 3, 0, 1, 2] : List Nat).Nodup) (by decide : ([5, 4, 3, 0, 1, 2] : List Nat).Nodup)
        exact ih n34 (by omega) _ _ _ x W trivial h
theorem pc_rp_b {t : Nat} {A : Nat → Nat} {hh r k n0 : Int32} : ∀ (n : Nat) (c : Int32) (σ : ps) (x : Option Value × ps), Wld t A σ → (True) → prun n 161 97 [(5, .int c), (4, .int n0), (3, .int k), (0, .ref t), (1, .int hh), (2, .int r)] [] σ = some x → ∃ (m : Nat) (c2 : Int32) (σ' : ps), SP t A σ σ' ∧ FrO (vw t A σ) (vw t A σ') ∧ prun m 161 152 [(5, .int c2), (4, .int n0), (3, .int k), (0, .ref t), (1, .int hh), (2, .int r)] [] σ' = some x := by
  intro n
  induction n using Nat.strongRecOn with
  | ind n ih =>
    intro c σ x W I h
    obtain ⟨n1, l1, h⟩ := v_il h (by decide +kernel : pins 161 97 = some (3, 99, 5, 0, [])) (v := c) rfl
    obtain ⟨n2, l2, h⟩ := v_al h (by decide +kernel : pins 161 99 = some (5, 100, 0, 0, [])) (v := t) rfl
    obtain ⟨n3, l3, h⟩ := w_row (k := 24) W h (by decide +kernel : pins 161 100 = some (22, 103, 13, 24, [])) (by decide)
    obtain ⟨n4, l4, h⟩ := v_il h (by decide +kernel : pins 161 103 = some (3, 104, 1, 0, [])) (v := hh) rfl
    obtain ⟨n5, w104, l5, b104, e104, h⟩ := w_iald W h (by decide +kernel : pins 161 104 = some (24, 105, 0, 0, [])) (by decide)
    obtain ⟨n6, l6, ⟨c105, h⟩ | ⟨c105, h⟩⟩ := u_ic3 h (by decide +kernel : pins 161 105 = some (17, 108, 3, ((152 : Nat) : Int), []))
    · have h := prun_lv h (lv' := [(5, .int c), (4, .int n0), (3, .int k), (0, .ref t), (1, .int hh), (2, .int r)]) (lvLe.cons (lvLe.cons (lvLe.cons (lvLe.cons (lvLe.cons (lvLe.cons lvLe.nil rfl) rfl) rfl) rfl) rfl) rfl) (by decide : ([5, 4, 3, 0, 1, 2] : List Nat).Nodup) (by decide : ([5, 4, 3, 0, 1, 2] : List Nat).Nodup)
      exact ⟨_, _, σ, SP.rf W, FrO.rf, h⟩
    · obtain ⟨n7, l7, h⟩ := v_al h (by decide +kernel : pins 161 108 = some (5, 109, 0, 0, [])) (v := t) rfl
      obtain ⟨n8, l8, h⟩ := w_row (k := 22) W h (by decide +kernel : pins 161 109 = some (22, 112, 13, 22, [])) (by decide)
      obtain ⟨n9, w112, l9, ⟨e112, i112⟩, h⟩ := u_ic h (by decide +kernel : pins 161 112 = some (0, 114, 64, 0, [])) (by decide)
      obtain ⟨n10, l10, h⟩ := v_il h (by decide +kernel : pins 161 114 = some (3, 115, 1, 0, [])) (v := hh) rfl
      obtain ⟨n11, w115, l11, e115, h⟩ := u_mul h (by decide +kernel : pins 161 115 = some (10, 116, 2, 0, []))
      obtain ⟨n12, w116, l12, ⟨e116, i116⟩, h⟩ := u_ic h (by decide +kernel : pins 161 116 = some (0, 118, 16, 0, [])) (by decide)
      obtain ⟨n13, l13, h⟩ := v_il h (by decide +kernel : pins 161 118 = some (3, 120, 5, 0, [])) (v := c) rfl
      obtain ⟨n14, w120, l14, e120, h⟩ := u_mul h (by decide +kernel : pins 161 120 = some (10, 121, 2, 0, []))
      obtain ⟨n15, w121, l15, e121, h⟩ := u_add h (by decide +kernel : pins 161 121 = some (10, 122, 0, 0, []))
      obtain ⟨n16, l16, h⟩ := v_al h (by decide +kernel : pins 161 122 = some (5, 123, 0, 0, [])) (v := t) rfl
      obtain ⟨n17, l17, h⟩ := w_row (k := 29) W h (by decide +kernel : pins 161 123 = some (22, 126, 13, 29, [])) (by decide)
      obtain ⟨n18, w126, l18, ⟨e126, i126⟩, h⟩ := u_ic h (by decide +kernel : pins 161 126 = some (0, 128, 16, 0, [])) (by decide)
      obtain ⟨n19, l19, h⟩ := v_il h (by decide +kernel : pins 161 128 = some (3, 129, 3, 0, [])) (v := k) rfl
      obtain ⟨n20, w129, l20, e129, h⟩ := u_mul h (by decide +kernel : pins 161 129 = some (10, 130, 2, 0, []))
      obtain ⟨n21, r130, s130, l21, h130, h⟩ := pinv_call h (by decide +kernel : pins 161 130 = some (36, 133, 140, 1, [4]))
      have h130 : prun n21 140 0 (lv_args 0 [.ref (A 22), .int w121, .ref (A 29), .int w129]) [] σ = some (r130, s130) := h130
      obtain ⟨es130, w130, er130, f130⟩ := pc_alike0 W h130 (by decide) (by decide)
      have er130 : r130 = some (.int w130) := er130
      have et130 : s130 = σ := es130
      rw [et130] at h
      subst er130
      have h : prun n21 161 133 [(5, .int c), (4, .int n0), (3, .int k), (0, .ref t), (1, .int hh), (2, .int r)] [.int w130] σ = some x := h
      obtain ⟨n22, l22, ⟨c133, h⟩ | ⟨c133, h⟩⟩ := u_if0 h (by decide +kernel : pins 161 133 = some (16, 136, 0, ((146 : Nat) : Int), []))
      · obtain ⟨n23, w146, l23, e146, h⟩ := u_inc h (by decide +kernel : pins 161 146 = some (9, 149, 5, 1, [])) (v := c) rfl
        have h : prun n23 161 149 [(5, .int w146), (4, .int n0), (3, .int k), (0, .ref t), (1, .int hh), (2, .int r)] [] σ = some x := h
        obtain ⟨n24, l24, h⟩ := u_go h (by decide +kernel : pins 161 149 = some (20, 152, 0, ((97 : Nat) : Int), []))
        have h := prun_lv h (lv' := [(5, .int w146), (4, .int n0), (3, .int k), (0, .ref t), (1, .int hh), (2, .int r)]) (lvLe.cons (lvLe.cons (lvLe.cons (lvLe.cons (lvLe.cons (lvLe.cons lvLe.nil rfl) rfl) rfl) rfl) rfl) rfl) (by decide : ([5, 4, 3, 0, 1, 2] : List Nat).Nodup) (by decide : ([5, 4, 3, 0, 1, 2] : List Nat).Nodup)
        exact ih n24 (by omega) _ _ x W trivial h
      · obtain ⟨n25, l25, h⟩ := v_al h (by decide +kernel : pins 161 136 = some (5, 137, 0, 0, [])) (v := t) rfl
        obtain ⟨n26, l26, h⟩ := v_il h (by decide +kernel : pins 161 137 = some (3, 138, 1, 0, [])) (v := hh) rfl
        obtain ⟨n27, l27, h⟩ := v_il h (by decide +kernel : pins 161 138 = some (3, 140, 5, 0, [])) (v := c) rfl
        obtain ⟨n28, w140, l28, ⟨e140, i140⟩, h⟩ := u_ic h (by decide +kernel : pins 161 140 = some (0, 143, 120000, 0, [])) (by decide)
        obtain ⟨n29, r143, s143, l29, h143, h⟩ := pinv_call h (by decide +kernel : pins 161 143 = some (36, 146, 151, 0, [4]))
        have h143 : prun n29 151 0 (lv_args 0 [.ref t, .int hh, .int c, .int w140]) [] σ = some (r143, s143) := h143
        obtain ⟨er143, S143, f143⟩ := pc_putService W h143
        have er143 : r143 = none := er143
        subst er143
        try dsimp only at S143
        try dsimp only at f143
        have h : prun n29 161 146 [(5, .int c), (4, .int n0), (3, .int k), (0, .ref t), (1, .int hh), (2, .int r)] [] s143 = some x := h
        obtain ⟨n30, w146, l30, e146, h⟩ := u_inc h (by decide +kernel : pins 161 146 = some (9, 149, 5, 1, [])) (v := c) rfl
        have h : prun n30 161 149 [(5, .int w146), (4, .int n0), (3, .int k), (0, .ref t), (1, .int hh), (2, .int r)] [] s143 = some x := h
        obtain ⟨n31, l31, h⟩ := u_go h (by decide +kernel : pins 161 149 = some (20, 152, 0, ((97 : Nat) : Int), []))
        have h := prun_lv h (lv' := [(5, .int w146), (4, .int n0), (3, .int k), (0, .ref t), (1, .int hh), (2, .int r)]) (lvLe.cons (lvLe.cons (lvLe.cons (lvLe.cons (lvLe.cons (lvLe.cons lvLe.nil rfl) rfl) rfl) rfl) rfl) rfl) (by decide : ([5, 4, 3, 0, 1, 2] : List Nat).Nodup) (by decide : ([5, 4, 3, 0, 1, 2] : List Nat).Nodup)
        obtain ⟨m, c2, σ2, y1, y2, y3⟩ := ih n31 (by omega) _ _ x S143.1 trivial h
        exact ⟨m, c2, σ2, S143.tr y1, FrO.tr f143 y2, y3⟩
theorem pc_rp_c {t : Nat} {A : Nat → Nat} {hh r k n0 : Int32} (hh0 : 0 ≤ hh.toInt ∧ hh.toInt ≤ 7) : ∀ (n : Nat) (c : Int32) (σ : ps) (x : Option Value × ps), Wld t A σ → (0 ≤ c.toInt ∧ (0 ≤ (gI (vw t A σ) 31 hh.toNatClampNeg).toInt ∧ (gI (vw t A σ) 31 hh.toNatClampNeg).toInt ≤ 4)) → prun n 161 170 [(5, .int c), (4, .int n0), (3, .int k), (0, .ref t), (1, .int hh), (2, .int r)] [] σ = some x → x.1 = none ∧ SP t A σ x.2 ∧ (∀ j q : Nat, ¬ j = 29 → ¬ j = 30 → vw t A x.2 j q = vw t A σ j q) ∧ ShL (vw t A σ) (vw t A x.2) 30 c.toNatClampNeg (4 * (hh.toNatClampNeg : Int) + (gI (vw t A σ) 31 hh.toNatClampNeg).toInt) := by
  intro n
  induction n using Nat.strongRecOn with
  | ind n ih =>
    intro c σ x W I h
    obtain ⟨I1, I2⟩ := I
    obtain ⟨n1, l1, h⟩ := v_il h (by decide +kernel : pins 161 170 = some (3, 172, 5, 0, [])) (v := c) rfl
    obtain ⟨n2, w172, l2, ⟨e172, i172⟩, h⟩ := u_ic h (by decide +kernel : pins 161 172 = some (0, 173, 4, 0, [])) (by decide)
    obtain ⟨n3, l3, h⟩ := v_il h (by decide +kernel : pins 161 173 = some (3, 174, 1, 0, [])) (v := hh) rfl
    obtain ⟨n4, w174, l4, e174, h⟩ := u_mul h (by decide +kernel : pins 161 174 = some (10, 175, 2, 0, []))
    obtain ⟨n5, l5, h⟩ := v_al h (by decide +kernel : pins 161 175 = some (5, 176, 0, 0, [])) (v := t) rfl
    obtain ⟨n6, l6, h⟩ := w_row (k := 31) W h (by decide +kernel : pins 161 176 = some (22, 179, 13, 31, [])) (by decide)
    obtain ⟨n7, l7, h⟩ := v_il h (by decide +kernel : pins 161 179 = some (3, 180, 1, 0, [])) (v := hh) rfl
    obtain ⟨n8, w180, l8, b180, e180, h⟩ := w_iald W h (by decide +kernel : pins 161 180 = some (24, 181, 0, 0, [])) (by decide)
    obtain ⟨n9, w181, l9, e181, h⟩ := u_add h (by decide +kernel : pins 161 181 = some (10, 182, 0, 0, []))
    obtain ⟨n10, l10, ⟨c182, h⟩ | ⟨c182, h⟩⟩ := u_ic3 h (by decide +kernel : pins 161 182 = some (17, 185, 3, ((231 : Nat) : Int), []))
    · have ex := u_ret37 h (by decide +kernel : pins 161 231 = some (37, 232, 0, 0, []))
      subst ex
      have q174 : w174.toInt = 4 * hh.toInt := by rw [e174, n_mul (by rw [i172]; omega) (by rw [i172]; omega), i172]
      have hn : (hh.toNatClampNeg : Int) = hh.toInt := n_clamp hh0.1
      have q180 : w180.toInt = (gI (vw t A σ) 31 hh.toNatClampNeg).toInt := by rw [e180]
      have q181 : w181.toInt = 4 * hh.toInt + w180.toInt := by rw [addc e181 rfl (by omega) (by omega) (by omega) (by omega), q174]
      have cn : (c.toNatClampNeg : Int) = c.toInt := n_clamp I1
      exact ⟨rfl, SP.rf W, fun _ _ _ _ => rfl, ShL.rf (by omega)⟩
    · obtain ⟨n12, l12, h⟩ := v_al h (by decide +kernel : pins 161 185 = some (5, 186, 0, 0, [])) (v := t) rfl
      obtain ⟨n13, l13, h⟩ := w_row (k := 30) W h (by decide +kernel : pins 161 186 = some (22, 189, 13, 30, [])) (by decide)
      obtain ⟨n14, l14, h⟩ := v_il h (by decide +kernel : pins 161 189 = some (3, 191, 5, 0, [])) (v := c) rfl
      obtain ⟨n15, l15, h⟩ := v_al h (by decide +kernel : pins 161 191 = some (5, 192, 0, 0, [])) (v := t) rfl
      obtain ⟨n16, l16, h⟩ := w_row (k := 30) W h (by decide +kernel : pins 161 192 = some (22, 195, 13, 30, [])) (by decide)
      obtain ⟨n17, l17, h⟩ := v_il h (by decide +kernel : pins 161 195 = some (3, 197, 5, 0, [])) (v := c) rfl
      obtain ⟨n18, w197, l18, ⟨e197, i197⟩, h⟩ := u_ic h (by decide +kernel : pins 161 197 = some (0, 198, 1, 0, [])) (by decide)
      obtain ⟨n19, w198, l19, e198, h⟩ := u_add h (by decide +kernel : pins 161 198 = some (10, 199, 0, 0, []))
      obtain ⟨n20, w199, l20, b199, e199, h⟩ := w_lald W h (by decide +kernel : pins 161 199 = some (26, 200, 0, 0, [])) (by decide)
      obtain ⟨n21, s200, l21, b200, S200, u200, h⟩ := w_last W h (by decide +kernel : pins 161 200 = some (30, 201, 0, 0, [])) (by decide)
      obtain ⟨n22, l22, h⟩ := v_al h (by decide +kernel : pins 161 201 = some (5, 202, 0, 0, [])) (v := t) rfl
      obtain ⟨n23, l23, h⟩ := w_row (k := 29) S200.1 h (by decide +kernel : pins 161 202 = some (22, 205, 13, 29, [])) (by decide)
      obtain ⟨n24, w205, l24, ⟨e205, i205⟩, h⟩ := u_ic h (by decide +kernel : pins 161 205 = some (0, 207, 16, 0, [])) (by decide)
      obtain ⟨n25, l25, h⟩ := v_il h (by decide +kernel : pins 161 207 = some (3, 209, 5, 0, [])) (v := c) rfl
      obtain ⟨n26, w209, l26, e209, h⟩ := u_mul h (by decide +kernel : pins 161 209 = some (10, 210, 2, 0, []))
      obtain ⟨n27, w210, l27, ⟨e210, i210⟩, h⟩ := u_ic h (by decide +kernel : pins 161 210 = some (0, 212, 16, 0, [])) (by decide)
      obtain ⟨n28, w212, l28, e212, h⟩ := u_add h (by decide +kernel : pins 161 212 = some (10, 213, 0, 0, []))
      obtain ⟨n29, l29, h⟩ := v_al h (by decide +kernel : pins 161 213 = some (5, 214, 0, 0, [])) (v := t) rfl
      obtain ⟨n30, l30, h⟩ := w_row (k := 29) S200.1 h (by decide +kernel : pins 161 214 = some (22, 217, 13, 29, [])) (by decide)
      obtain ⟨n31, w217, l31, ⟨e217, i217⟩, h⟩ := u_ic h (by decide +kernel : pins 161 217 = some (0, 219, 16, 0, [])) (by decide)
      obtain ⟨n32, l32, h⟩ := v_il h (by decide +kernel : pins 161 219 = some (3, 221, 5, 0, [])) (v := c) rfl
      obtain ⟨n33, w221, l33, e221, h⟩ := u_mul h (by decide +kernel : pins 161 221 = some (10, 222, 2, 0, []))
      obtain ⟨n34, r222, s222, l34, h222, h⟩ := pinv_call h (by decide +kernel : pins 161 222 = some (36, 225, 142, 1, [4]))
      have h222 : prun n34 142 0 (lv_args 0 [.ref (A 29), .int w212, .ref (A 29), .int w221]) [] s200 = some (r222, s222) := h222
      obtain ⟨er222, S222, f222⟩ := pc_copy S200.1 h222 (by decide) (by decide)
      have er222 : r222 = none := er222
      subst er222
      try dsimp only at S222
      try dsimp only at f222
      have h : prun n34 161 225 [(5, .int c), (4, .int n0), (3, .int k), (0, .ref t), (1, .int hh), (2, .int r)] [] s222 = some x := h
      obtain ⟨n35, w225, l35, e225, h⟩ := u_inc h (by decide +kernel : pins 161 225 = some (9, 228, 5, 1, [])) (v := c) rfl
      have h : prun n35 161 228 [(5, .int w225), (4, .int n0), (3, .int k), (0, .ref t), (1, .int hh), (2, .int r)] [] s222 = some x := h
      obtain ⟨n36, l36, h⟩ := u_go h (by decide +kernel : pins 161 228 = some (20, 231, 0, ((170 : Nat) : Int), []))
      have h := prun_lv h (lv' := [(5, .int w225), (4, .int n0), (3, .int k), (0, .ref t), (1, .int hh), (2, .int r)]) (lvLe.cons (lvLe.cons (lvLe.cons (lvLe.cons (lvLe.cons (lvLe.cons lvLe.nil rfl) rfl) rfl) rfl) rfl) rfl) (by decide : ([5, 4, 3, 0, 1, 2] : List Nat).Nodup) (by decide : ([5, 4, 3, 0, 1, 2] : List Nat).Nodup)
      have q174 : w174.toInt = 4 * hh.toInt := by rw [e174, n_mul (by rw [i172]; omega) (by rw [i172]; omega), i172]
      have hn : (hh.toNatClampNeg : Int) = hh.toInt := n_clamp hh0.1
      have q180 : w180.toInt = (gI (vw t A σ) 31 hh.toNatClampNeg).toInt := by rw [e180]
      have q181 : w181.toInt = 4 * hh.toInt + w180.toInt := by rw [addc e181 rfl (by omega) (by omega) (by omega) (by omega), q174]
      have cn : (c.toNatClampNeg : Int) = c.toInt := n_clamp I1
      have q225 : w225.toInt = c.toInt + 1 := addc e225 (by decide : (Int32.ofInt 1).toInt = 1) (by omega) (by omega) (by decide) (by decide)
      have cn1 : w225.toNatClampNeg = c.toNatClampNeg + 1 := by rw [clampc q225 (by omega)]; omega
      have q198 : w198.toInt = c.toInt + 1 := addc e198 i197 (by omega) (by omega) (by decide) (by decide)
      have n198 : w198.toNatClampNeg = c.toNatClampNeg + 1 := by rw [clampc q198 (by omega)]; omega
      have fr : ∀ j q : Nat, ¬ j = 29 → ¬ j = 30 → vw t A s222 j q = vw t A σ j q := fun j q h1 h2 => by rw [f222 j q h1, u200, up_ne h2]
      have e31 : gI (vw t A s222) 31 hh.toNatClampNeg = gI (vw t A σ) 31 hh.toNatClampNeg := by unfold gI; rw [fr 31 _ (by decide) (by decide)]
      obtain ⟨y1, y2, y3, y4⟩ := ih n36 (by omega) _ _ x S222.1 ⟨by omega, by rw [e31]; exact I2⟩ h
      rw [e31, cn1] at y4
      refine ⟨y1, (S200.tr S222).tr y2, fun j q h1 h2 => (y3 j q h1 h2).trans (fr j q h1 h2), ShL.tr (by omega) ?_ ?_ y4⟩
      · unfold gL
        rw [f222 30 _ (by decide), u200, up_eq, e199, n198]
        rfl
      · intro q hq
        unfold gL
        rw [f222 30 _ (by decide), u200, up_ni (by decide) hq]
theorem pc_replies1 {t n : Nat} {A : Nat → Nat} {hh r : Int32} {σ : ps} {x : Option Value × ps} (W : Wld t A σ) (h : prun n 161 0 (lv_args 0 [.ref t, .int hh, .int r]) [] σ = some x) (hh0 : 0 ≤ hh.toInt ∧ hh.toInt ≤ 7) (HA : 0 ≤ (gI (vw t A σ) 46 0).toInt ∧ (gI (vw t A σ) 46 0).toInt < 800) (HM : 0 ≤ (gI (vw t A σ) 47 0).toInt ∧ (gI (vw t A σ) 47 0).toInt ≤ 1000) (hR : 1 ≤ (gI (vw t A σ) 31 hh.toNatClampNeg).toInt ∧ (gI (vw t A σ) 31 hh.toNatClampNeg).toInt ≤ 4) (hr0 : 0 ≤ r.toInt ∧ r.toInt ≤ 3) : x.1 = none ∧ SP t A σ x.2 ∧ Rp1 (vw t A σ) (vw t A x.2) hh.toNatClampNeg r.toInt := by
  have h : prun n 161 0 [(0, .ref t), (1, .int hh), (2, .int r)] [] σ = some x := h
  obtain ⟨n1, w0, l1, ⟨e0, i0⟩, h⟩ := u_ic h (by decide +kernel : pins 161 0 = some (0, 1, 4, 0, [])) (by decide)
  obtain ⟨n2, l2, h⟩ := v_il h (by decide +kernel : pins 161 1 = some (3, 2, 1, 0, [])) (v := hh) rfl
  obtain ⟨n3, w2, l3, e2, h⟩ := u_mul h (by decide +kernel : pins 161 2 = some (10, 3, 2, 0, []))
  obtain ⟨n4, l4, h⟩ := v_il h (by decide +kernel : pins 161 3 = some (3, 4, 2, 0, [])) (v := r) rfl
  obtain ⟨n5, w4, l5, e4, h⟩ := u_add h (by decide +kernel : pins 161 4 = some (10, 5, 0, 0, []))
  obtain ⟨n6, l6, h⟩ := v_is h (by decide +kernel : pins 161 5 = some (6, 6, 3, 0, []))
  have h : prun n6 161 6 [(3, .int w4), (0, .ref t), (1, .int hh), (2, .int r)] [] σ = some x := h
  obtain ⟨n7, w6, l7, ⟨e6, i6⟩, h⟩ := u_ic h (by decide +kernel : pins 161 6 = some (0, 7, 0, 0, [])) (by decide)
  obtain ⟨n8, l8, h⟩ := v_is h (by decide +kernel : pins 161 7 = some (6, 9, 4, 0, []))
  have h : prun n8 161 9 [(4, .int w6), (3, .int w4), (0, .ref t), (1, .int hh), (2, .int r)] [] σ = some x := h
  obtain ⟨n9, w9, l9, ⟨e9, i9⟩, h⟩ := u_ic h (by decide +kernel : pins 161 9 = some (0, 10, 0, 0, [])) (by decide)
  obtain ⟨n10, l10, h⟩ := v_is h (by decide +kernel : pins 161 10 = some (6, 12, 5, 0, []))
  have h : prun n10 161 12 [(5, .int w9), (4, .int w6), (3, .int w4), (0, .ref t), (1, .int hh), (2, .int r)] [] σ = some x := h
  have h := prun_lv h (lv' := [(5, .int w9), (4, .int w6), (3, .int w4), (0, .ref t), (1, .int hh), (2, .int r)]) (lvLe.cons (lvLe.cons (lvLe.cons (lvLe.cons (lvLe.cons (lvLe.cons lvLe.nil rfl) rfl) rfl) rfl) rfl) rfl) (by decide : ([5, 4, 3, 0, 1, 2] : List Nat).Nodup) (by decide : ([5, 4, 3, 0, 1, 2] : List Nat).Nodup)
  obtain ⟨m1, c2, n2, h⟩ := pc_rp_a _ _ _ _ x W trivial h
  obtain ⟨n501, l501, h⟩ := v_al h (by decide +kernel : pins 161 67 = some (5, 68, 0, 0, [])) (v := t) rfl
  obtain ⟨n502, l502, h⟩ := w_row (k := 16) W h (by decide +kernel : pins 161 68 = some (22, 71, 13, 16, [])) (by decide)
  obtain ⟨n503, l503, h⟩ := v_il h (by decide +kernel : pins 161 71 = some (3, 72, 1, 0, [])) (v := hh) rfl
  obtain ⟨n504, w72, l504, b72, e72, h⟩ := w_iald W h (by decide +kernel : pins 161 72 = some (24, 73, 0, 0, [])) (by decide)
  obtain ⟨n505, w73, l505, ⟨e73, i73⟩, h⟩ := u_ic h (by decide +kernel : pins 161 73 = some (0, 74, 3, 0, [])) (by decide)
  obtain ⟨n506, l506, ⟨c74, h⟩ | ⟨c74, h⟩⟩ := u_ic1 h (by decide +kernel : pins 161 74 = some (17, 77, 1, ((157 : Nat) : Int), []))
  · obtain ⟨n507, l507, h⟩ := v_al h (by decide +kernel : pins 161 157 = some (5, 158, 0, 0, [])) (v := t) rfl
    obtain ⟨n508, l508, h⟩ := w_row (k := 31) W h (by decide +kernel : pins 161 158 = some (22, 161, 13, 31, [])) (by decide)
    obtain ⟨n509, l509, h⟩ := v_il h (by decide +kernel : pins 161 161 = some (3, 162, 1, 0, [])) (v := hh) rfl
    obtain ⟨n510, l510, h⟩ := v_dup2 h (by decide +kernel : pins 161 162 = some (35, 163, 0, 0, []))
    obtain ⟨n511, w163, l511, b163, e163, h⟩ := w_iald W h (by decide +kernel : pins 161 163 = some (24, 164, 0, 0, [])) (by decide)
    obtain ⟨n512, w164, l512, ⟨e164, i164⟩, h⟩ := u_ic h (by decide +kernel : pins 161 164 = some (0, 165, 1, 0, [])) (by decide)
    obtain ⟨n513, w165, l513, e165, h⟩ := u_sub h (by decide +kernel : pins 161 165 = some (10, 166, 1, 0, []))
    obtain ⟨n514, s166, l514, b166, S166, u166, h⟩ := w_iast W h (by decide +kernel : pins 161 166 = some (28, 167, 0, 0, [])) (by decide)
    obtain ⟨n515, l515, h⟩ := v_il h (by decide +kernel : pins 161 167 = some (3, 168, 3, 0, [])) (v := w4) rfl
    obtain ⟨n516, l516, h⟩ := v_is h (by decide +kernel : pins 161 168 = some (6, 170, 5, 0, []))
    have h : prun n516 161 170 [(5, .int w4), (4, .int n2), (3, .int w4), (0, .ref t), (1, .int hh), (2, .int r)] [] s166 = some x := h
    have h := prun_lv h (lv' := [(5, .int w4), (4, .int n2), (3, .int w4), (0, .ref t), (1, .int hh), (2, .int r)]) (lvLe.cons (lvLe.cons (lvLe.cons (lvLe.cons (lvLe.cons (lvLe.cons lvLe.nil rfl) rfl) rfl) rfl) rfl) rfl) (by decide : ([5, 4, 3, 0, 1, 2] : List Nat).Nodup) (by decide : ([5, 4, 3, 0, 1, 2] : List Nat).Nodup)
    have q2 : w2.toInt = 4 * hh.toInt := by rw [e2, n_mul (by rw [i0]; omega) (by rw [i0]; omega), i0]
    have q4 : w4.toInt = 4 * hh.toInt + r.toInt := by rw [addc e4 rfl (by omega) (by omega) (by omega) (by omega), q2]
    have hn : (hh.toNatClampNeg : Int) = hh.toInt := n_clamp hh0.1
    have n4 : w4.toNatClampNeg = 4 * hh.toNatClampNeg + r.toInt.toNat := by rw [clampc q4 (by omega)]; omega
    have G31 : gI (vw t A σ) 31 hh.toNatClampNeg = gI (vw t A σ) 31 hh.toNatClampNeg := rfl
    have HS : vw t A σ = vw t A σ ∨ (FrS (vw t A σ) (vw t A σ) ∧ ∃ p, Snd (vw t A σ) (vw t A σ) p ∧ (p = 1 ∨ p = 2521)) := Or.inl rfl
    have q163 : w163.toInt = (gI (vw t A σ) 31 hh.toNatClampNeg).toInt := by rw [e163, G31]
    have q165 : w165.toInt = (gI (vw t A σ) 31 hh.toNatClampNeg).toInt - 1 := by rw [e165, n_sub (by rw [i164]; omega) (by rw [i164]; omega), i164, q163]
    have n31 : gI (vw t A s166) 31 hh.toNatClampNeg = w165 := by rw [u166, gI_eq]
    obtain ⟨y1, y2, y3, y4⟩ := pc_rp_c hh0 _ _ _ x S166.1 ⟨by omega, by rw [n31]; omega⟩ h
    rw [n31, n4, q165] at y4
    refine ⟨y1, S166.tr y2, vw t A σ, HS, ?_, fun j q h1 h2 h3 => ?_, ?_⟩
    · have : gI (vw t A x.2) 31 hh.toNatClampNeg = w165 := by rw [← n31]; unfold gI; rw [y3 31 _ (by decide) (by decide)]
      rw [this, q165]
    · rw [y3 j q h1 h2, u166]
      by_cases e : j = 31
      · subst e; exact up_ni (by decide) (fun e => h3 ⟨rfl, e⟩)
      · exact up_ne e
    · have g30 : ∀ q, gL (vw t A s166) 30 q = gL (vw t A σ) 30 q := fun q => by rw [u166, gL_ne (by decide)]
      refine ⟨fun q a b => ?_, fun q a => ?_⟩
      · rw [y4.1 q a (by omega), g30]
      · rw [y4.2 q (by omega), g30]
  · obtain ⟨n517, l517, h⟩ := v_il h (by decide +kernel : pins 161 77 = some (3, 79, 4, 0, [])) (v := n2) rfl
    obtain ⟨n518, l518, ⟨c79, h⟩ | ⟨c79, h⟩⟩ := u_if5 h (by decide +kernel : pins 161 79 = some (16, 82, 5, ((157 : Nat) : Int), []))
    · obtain ⟨n519, l519, h⟩ := v_al h (by decide +kernel : pins 161 157 = some (5, 158, 0, 0, [])) (v := t) rfl
      obtain ⟨n520, l520, h⟩ := w_row (k := 31) W h (by decide +kernel : pins 161 158 = some (22, 161, 13, 31, [])) (by decide)
      obtain ⟨n521, l521, h⟩ := v_il h (by decide +kernel : pins 161 161 = some (3, 162, 1, 0, [])) (v := hh) rfl
      obtain ⟨n522, l522, h⟩ := v_dup2 h (by decide +kernel : pins 161 162 = some (35, 163, 0, 0, []))
      obtain ⟨n523, w163, l523, b163, e163, h⟩ := w_iald W h (by decide +kernel : pins 161 163 = some (24, 164, 0, 0, [])) (by decide)
      obtain ⟨n524, w164, l524, ⟨e164, i164⟩, h⟩ := u_ic h (by decide +kernel : pins 161 164 = some (0, 165, 1, 0, [])) (by decide)
      obtain ⟨n525, w165, l525, e165, h⟩ := u_sub h (by decide +kernel : pins 161 165 = some (10, 166, 1, 0, []))
      obtain ⟨n526, s166, l526, b166, S166, u166, h⟩ := w_iast W h (by decide +kernel : pins 161 166 = some (28, 167, 0, 0, [])) (by decide)
      obtain ⟨n527, l527, h⟩ := v_il h (by decide +kernel : pins 161 167 = some (3, 168, 3, 0, [])) (v := w4) rfl
      obtain ⟨n528, l528, h⟩ := v_is h (by decide +kernel : pins 161 168 = some (6, 170, 5, 0, []))
      have h : prun n528 161 170 [(5, .int w4), (4, .int n2), (3, .int w4), (0, .ref t), (1, .int hh), (2, .int r)] [] s166 = some x := h
      have h := prun_lv h (lv' := [(5, .int w4), (4, .int n2), (3, .int w4), (0, .ref t), (1, .int hh), (2, .int r)]) (lvLe.cons (lvLe.cons (lvLe.cons (lvLe.cons (lvLe.cons (lvLe.cons lvLe.nil rfl) rfl) rfl) rfl) rfl) rfl) (by decide : ([5, 4, 3, 0, 1, 2] : List Nat).Nodup) (by decide : ([5, 4, 3, 0, 1, 2] : List Nat).Nodup)
      have q2 : w2.toInt = 4 * hh.toInt := by rw [e2, n_mul (by rw [i0]; omega) (by rw [i0]; omega), i0]
      have q4 : w4.toInt = 4 * hh.toInt + r.toInt := by rw [addc e4 rfl (by omega) (by omega) (by omega) (by omega), q2]
      have hn : (hh.toNatClampNeg : Int) = hh.toInt := n_clamp hh0.1
      have n4 : w4.toNatClampNeg = 4 * hh.toNatClampNeg + r.toInt.toNat := by rw [clampc q4 (by omega)]; omega
      have G31 : gI (vw t A σ) 31 hh.toNatClampNeg = gI (vw t A σ) 31 hh.toNatClampNeg := rfl
      have HS : vw t A σ = vw t A σ ∨ (FrS (vw t A σ) (vw t A σ) ∧ ∃ p, Snd (vw t A σ) (vw t A σ) p ∧ (p = 1 ∨ p = 2521)) := Or.inl rfl
      have q163 : w163.toInt = (gI (vw t A σ) 31 hh.toNatClampNeg).toInt := by rw [e163, G31]
      have q165 : w165.toInt = (gI (vw t A σ) 31 hh.toNatClampNeg).toInt - 1 := by rw [e165, n_sub (by rw [i164]; omega) (by rw [i164]; omega), i164, q163]
      have n31 : gI (vw t A s166) 31 hh.toNatClampNeg = w165 := by rw [u166, gI_eq]
      obtain ⟨y1, y2, y3, y4⟩ := pc_rp_c hh0 _ _ _ x S166.1 ⟨by omega, by rw [n31]; omega⟩ h
      rw [n31, n4, q165] at y4
      refine ⟨y1, S166.tr y2, vw t A σ, HS, ?_, fun j q h1 h2 h3 => ?_, ?_⟩
      · have : gI (vw t A x.2) 31 hh.toNatClampNeg = w165 := by rw [← n31]; unfold gI; rw [y3 31 _ (by decide) (by decide)]
        rw [this, q165]
      · rw [y3 j q h1 h2, u166]
        by_cases e : j = 31
        · subst e; exact up_ni (by decide) (fun e => h3 ⟨rfl, e⟩)
        · exact up_ne e
      · have g30 : ∀ q, gL (vw t A s166) 30 q = gL (vw t A σ) 30 q := fun q => by rw [u166, gL_ne (by decide)]
        refine ⟨fun q a b => ?_, fun q a => ?_⟩
        · rw [y4.1 q a (by omega), g30]
        · rw [y4.2 q (by omega), g30]
    · obtain ⟨n529, l529, h⟩ := v_al h (by decide +kernel : pins 161 82 = some (5, 83, 0, 0, [])) (v := t) rfl
      obtain ⟨n530, w83, l530, ⟨e83, i83⟩, h⟩ := u_ic h (by decide +kernel : pins 161 83 = some (0, 84, 5, 0, [])) (by decide)
      obtain ⟨n531, r84, s84, l531, h84, h⟩ := pinv_call h (by decide +kernel : pins 161 84 = some (36, 87, 144, 0, [2]))
      have h84 : prun n531 144 0 (lv_args 0 [.ref t, .int w83]) [] σ = some (r84, s84) := h84
      obtain ⟨er84, S84, v84⟩ := pc_begin W h84
      have er84 : r84 = none := er84
      subst er84
      try dsimp only at S84
      try dsimp only at v84
      have h : prun n531 161 87 [(5, .int c2), (4, .int n2), (3, .int w4), (0, .ref t), (1, .int hh), (2, .int r)] [] s84 = some x := h
      obtain ⟨n532, l532, h⟩ := v_al h (by decide +kernel : pins 161 87 = some (5, 88, 0, 0, [])) (v := t) rfl
      obtain ⟨n533, l533, h⟩ := v_il h (by decide +kernel : pins 161 88 = some (3, 90, 4, 0, [])) (v := n2) rfl
      obtain ⟨n534, w90, l534, ⟨e90, i90⟩, h⟩ := u_ic h (by decide +kernel : pins 161 90 = some (0, 91, 1, 0, [])) (by decide)
      obtain ⟨n535, r91, s91, l535, h91, h⟩ := pinv_call h (by decide +kernel : pins 161 91 = some (36, 94, 145, 0, [3]))
      have h91 : prun n535 145 0 (lv_args 0 [.ref t, .int n2, .int w90]) [] s84 = some (r91, s91) := h91
      obtain ⟨er91, S91, p91, g91, y91⟩ := pc_put S84.1 h91 (by rw [e90]; decide)
      have er91 : r91 = none := er91
      subst er91
      try dsimp only at S91
      try dsimp only at p91
      try dsimp only at g91
      try dsimp only at y91
      have h : prun n535 161 94 [(5, .int c2), (4, .int n2), (3, .int w4), (0, .ref t), (1, .int hh), (2, .int r)] [] s91 = some x := h
      obtain ⟨n536, w94, l536, ⟨e94, i94⟩, h⟩ := u_ic h (by decide +kernel : pins 161 94 = some (0, 95, 0, 0, [])) (by decide)
      obtain ⟨n537, l537, h⟩ := v_is h (by decide +kernel : pins 161 95 = some (6, 97, 5, 0, []))
      have h : prun n537 161 97 [(5, .int w94), (4, .int n2), (3, .int w4), (0, .ref t), (1, .int hh), (2, .int r)] [] s91 = some x := h
      have h := prun_lv h (lv' := [(5, .int w94), (4, .int n2), (3, .int w4), (0, .ref t), (1, .int hh), (2, .int r)]) (lvLe.cons (lvLe.cons (lvLe.cons (lvLe.cons (lvLe.cons (lvLe.cons lvLe.nil rfl) rfl) rfl) rfl) rfl) rfl) (by decide : ([5, 4, 3, 0, 1, 2] : List Nat).Nodup) (by decide : ([5, 4, 3, 0, 1, 2] : List Nat).Nodup)
      obtain ⟨m2, c3, σ2, S2, F2, h⟩ := pc_rp_b _ _ _ x S91.1 trivial h
      have F91 := put_fro p91 g91 (by rw [i90]; decide)
      have FF : FrO (vw t A s84) (vw t A σ2) := F91.tr F2
      obtain ⟨HA2, HM2⟩ := pre_snd v84 FF HA HM
      obtain ⟨n801, l801, h⟩ := v_al h (by decide +kernel : pins 161 152 = some (5, 153, 0, 0, [])) (v := t) rfl
      obtain ⟨n802, l802, h⟩ := v_il h (by decide +kernel : pins 161 153 = some (3, 154, 1, 0, [])) (v := hh) rfl
      obtain ⟨n803, r154, s154, l803, h154, h⟩ := pinv_call h (by decide +kernel : pins 161 154 = some (36, 157, 147, 0, [2]))
      have h154 : prun n803 147 0 (lv_args 0 [.ref t, .int hh]) [] σ2 = some (r154, s154) := h154
      obtain ⟨er154, S154, m154, j154, k154, ra154, rb154⟩ := pc_send S2.1 h154 HA2 HM2
      have er154 : r154 = none := er154
      subst er154
      try dsimp only at S154
      try dsimp only at m154
      try dsimp only at j154
      try dsimp only at k154
      try dsimp only at ra154
      try dsimp only at rb154
      have h : prun n803 161 157 [(5, .int c3), (4, .int n2), (3, .int w4), (0, .ref t), (1, .int hh), (2, .int r)] [] s154 = some x := h
      obtain ⟨n804, l804, h⟩ := v_al h (by decide +kernel : pins 161 157 = some (5, 158, 0, 0, [])) (v := t) rfl
      obtain ⟨n805, l805, h⟩ := w_row (k := 31) S154.1 h (by decide +kernel : pins 161 158 = some (22, 161, 13, 31, [])) (by decide)
      obtain ⟨n806, l806, h⟩ := v_il h (by decide +kernel : pins 161 161 = some (3, 162, 1, 0, [])) (v := hh) rfl
      obtain ⟨n807, l807, h⟩ := v_dup2 h (by decide +kernel : pins 161 162 = some (35, 163, 0, 0, []))
      obtain ⟨n808, w163, l808, b163, e163, h⟩ := w_iald S154.1 h (by decide +kernel : pins 161 163 = some (24, 164, 0, 0, [])) (by decide)
      obtain ⟨n809, w164, l809, ⟨e164, i164⟩, h⟩ := u_ic h (by decide +kernel : pins 161 164 = some (0, 165, 1, 0, [])) (by decide)
      obtain ⟨n810, w165, l810, e165, h⟩ := u_sub h (by decide +kernel : pins 161 165 = some (10, 166, 1, 0, []))
      obtain ⟨n811, s166, l811, b166, S166, u166, h⟩ := w_iast S154.1 h (by decide +kernel : pins 161 166 = some (28, 167, 0, 0, [])) (by decide)
      obtain ⟨n812, l812, h⟩ := v_il h (by decide +kernel : pins 161 167 = some (3, 168, 3, 0, [])) (v := w4) rfl
      obtain ⟨n813, l813, h⟩ := v_is h (by decide +kernel : pins 161 168 = some (6, 170, 5, 0, []))
      have h : prun n813 161 170 [(5, .int w4), (4, .int n2), (3, .int w4), (0, .ref t), (1, .int hh), (2, .int r)] [] s166 = some x := h
      have h := prun_lv h (lv' := [(5, .int w4), (4, .int n2), (3, .int w4), (0, .ref t), (1, .int hh), (2, .int r)]) (lvLe.cons (lvLe.cons (lvLe.cons (lvLe.cons (lvLe.cons (lvLe.cons lvLe.nil rfl) rfl) rfl) rfl) rfl) rfl) (by decide : ([5, 4, 3, 0, 1, 2] : List Nat).Nodup) (by decide : ([5, 4, 3, 0, 1, 2] : List Nat).Nodup)
      have q2 : w2.toInt = 4 * hh.toInt := by rw [e2, n_mul (by rw [i0]; omega) (by rw [i0]; omega), i0]
      have q4 : w4.toInt = 4 * hh.toInt + r.toInt := by rw [addc e4 rfl (by omega) (by omega) (by omega) (by omega), q2]
      have hn : (hh.toNatClampNeg : Int) = hh.toInt := n_clamp hh0.1
      have n4 : w4.toNatClampNeg = 4 * hh.toNatClampNeg + r.toInt.toNat := by rw [clampc q4 (by omega)]; omega
      obtain ⟨a1, a2⟩ := all_snd5 v84 FF i83 m154 j154 k154 ra154 rb154
      have G31 : gI (vw t A s154) 31 hh.toNatClampNeg = gI (vw t A σ) 31 hh.toNatClampNeg := by unfold gI; rw [a1 31 _ (by decide)]
      have HS : vw t A s154 = vw t A σ ∨ (FrS (vw t A σ) (vw t A s154) ∧ ∃ p, Snd (vw t A σ) (vw t A s154) p ∧ (p = 1 ∨ p = 2521)) := Or.inr ⟨a1, a2⟩
      have q163 : w163.toInt = (gI (vw t A σ) 31 hh.toNatClampNeg).toInt := by rw [e163, G31]
      have q165 : w165.toInt = (gI (vw t A σ) 31 hh.toNatClampNeg).toInt - 1 := by rw [e165, n_sub (by rw [i164]; omega) (by rw [i164]; omega), i164, q163]
      have n31 : gI (vw t A s166) 31 hh.toNatClampNeg = w165 := by rw [u166, gI_eq]
      obtain ⟨y1, y2, y3, y4⟩ := pc_rp_c hh0 _ _ _ x S166.1 ⟨by omega, by rw [n31]; omega⟩ h
      rw [n31, n4, q165] at y4
      refine ⟨y1, ((((S84.tr S91).tr S2).tr S154).tr S166).tr y2, vw t A s154, HS, ?_, fun j q h1 h2 h3 => ?_, ?_⟩
      · have : gI (vw t A x.2) 31 hh.toNatClampNeg = w165 := by rw [← n31]; unfold gI; rw [y3 31 _ (by decide) (by decide)]
        rw [this, q165]
      · rw [y3 j q h1 h2, u166]
        by_cases e : j = 31
        · subst e; exact up_ni (by decide) (fun e => h3 ⟨rfl, e⟩)
        · exact up_ne e
      · have g30 : ∀ q, gL (vw t A s166) 30 q = gL (vw t A s154) 30 q := fun q => by rw [u166, gL_ne (by decide)]
        refine ⟨fun q a b => ?_, fun q a => ?_⟩
        · rw [y4.1 q a (by omega), g30]
        · rw [y4.2 q (by omega), g30]
