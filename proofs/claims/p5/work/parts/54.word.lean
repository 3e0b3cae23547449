theorem tw_B {t : Nat} {A : Nat → Nat} {k : Nat} {i nn fr : Int32} (hk2 : k = 62 ∨ k = 63) (hi : 0 ≤ i.toInt ∧ i.toInt ≤ 1000) (hf : 0 ≤ fr.toInt ∧ fr.toInt < 200) (hn : 1 ≤ nn.toInt ∧ nn.toInt ≤ 15) : ∀ (n : Nat) (c : Int32) (σ : ps) (x : Option Value × ps), Wld t A σ → (1 ≤ c.toInt ∧ c.toInt ≤ nn.toInt + 1 ∧ (¬ gI (vw t A σ) 60 0 = 0 → (gI (vw t A σ) 59 0).toInt = fr.toInt + c.toInt ∧ ∀ d : Nat, 1 ≤ d → (d : Int) < c.toInt → ¬ (gI (vw t A σ) k (i.toNatClampNeg + d)).toInt = 40 ∧ ¬ (gI (vw t A σ) 57 (fr.toNatClampNeg + d)).toInt = 40)) → prun n 170 132 [(5, .int c), (4, .int nn), (3, .int fr), (0, .ref t), (1, .ref (A k)), (2, .int i)] [] σ = some x → x.1 = none ∧ SP t A σ x.2 ∧ (∀ j q, ¬ j = k → ¬ j = 59 → ¬ j = 60 → ¬ (j = 61 ∧ q = fr.toNatClampNeg) → vw t A x.2 j q = vw t A σ j q) ∧ (∀ q, (q ≤ i.toNatClampNeg ∨ i.toNatClampNeg + 16 ≤ q) → vw t A x.2 k q = vw t A σ k q) ∧ (¬ gI (vw t A x.2) 60 0 = 0 → ¬ gI (vw t A σ) 60 0 = 0 ∧ ∀ d : Nat, 1 ≤ d → (d : Int) ≤ nn.toInt → ¬ (gI (vw t A x.2) k (i.toNatClampNeg + d)).toInt = 40) ∧ (¬ gI (vw t A x.2) 61 fr.toNatClampNeg = 0 → ∀ d : Nat, 1 ≤ d → (d : Int) ≤ nn.toInt → ¬ (gI (vw t A σ) 57 (fr.toNatClampNeg + d)).toInt = 40) := by
  intro n
  induction n using Nat.strongRecOn with
  | ind n ih =>
    intro c σ x W I h
    have hk : isRw k = true := by rcases hk2 with e | e <;> rw [e] <;> decide
    obtain ⟨I1, I2, I3⟩ := I
    obtain ⟨n1, l1, h⟩ := v_il h (by decide +kernel : pins 170 132 = some (3, 134, 5, 0, [])) (v := c) rfl
    obtain ⟨n2, l2, h⟩ := v_il h (by decide +kernel : pins 170 134 = some (3, 136, 4, 0, [])) (v := nn) rfl
    obtain ⟨n3, l3, ⟨c136, h⟩ | ⟨c136, h⟩⟩ := u_ic4 h (by decide +kernel : pins 170 136 = some (17, 139, 4, ((173 : Nat) : Int), []))
    · obtain ⟨n4, l4, h⟩ := v_al h (by decide +kernel : pins 170 173 = some (5, 174, 0, 0, [])) (v := t) rfl
      obtain ⟨n5, l5, h⟩ := w_row (k := 61) W h (by decide +kernel : pins 170 174 = some (22, 177, 13, 61, [])) (by decide)
      obtain ⟨n6, l6, h⟩ := v_il h (by decide +kernel : pins 170 177 = some (3, 178, 3, 0, [])) (v := fr) rfl
      obtain ⟨n7, l7, h⟩ := v_al h (by decide +kernel : pins 170 178 = some (5, 179, 0, 0, [])) (v := t) rfl
      obtain ⟨n8, w179, l8, e179, h⟩ := w_fi (k := 60) W h (by decide +kernel : pins 170 179 = some (22, 182, 13, 60, [])) (by decide)
      obtain ⟨n9, s182, l9, b182, S182, u182, h⟩ := w_bast W h (by decide +kernel : pins 170 182 = some (29, 183, 0, 0, [])) (by decide) (by decide)
      have ex := u_ret37 h (by decide +kernel : pins 170 183 = some (37, 184, 0, 0, []))
      subst ex
      refine ⟨rfl, S182, fun j q h1 h2 h3 h4 => ?_, fun q hq => ?_, ?_, ?_⟩
      · show vw t A s182 j q = _
        rw [u182]
        by_cases e : j = 61
        · subst e; rw [up_ni (by decide) (fun q' => h4 ⟨rfl, q'⟩)]
        · rw [up_ne e]
      · show vw t A s182 k q = _
        rw [u182, up_ne (by omega)]
      · show ¬ gI (vw t A s182) 60 0 = 0 → _
        rw [u182, gI_ne (by decide)]
        intro hg
        refine ⟨hg, fun d d1 d2 => ?_⟩
        rw [gI_ne (by omega)]
        exact ((I3 hg).2 d d1 (by omega)).1
      · show ¬ gI (vw t A s182) 61 _ = 0 → _
        rw [u182, gI_eq]
        intro hg d d1 d2
        have hg : ¬ gI (vw t A σ) 60 0 = 0 := by
          intro q
          apply hg
          rw [e179, q]
          decide
        exact ((I3 hg).2 d d1 (by omega)).2
    · obtain ⟨n11, l11, h⟩ := v_al h (by decide +kernel : pins 170 139 = some (5, 140, 1, 0, [])) (v := (A k)) rfl
      obtain ⟨n12, l12, h⟩ := v_il h (by decide +kernel : pins 170 140 = some (3, 141, 2, 0, [])) (v := i) rfl
      obtain ⟨n13, l13, h⟩ := v_il h (by decide +kernel : pins 170 141 = some (3, 143, 5, 0, [])) (v := c) rfl
      obtain ⟨n14, w143, l14, e143, h⟩ := u_add h (by decide +kernel : pins 170 143 = some (10, 144, 0, 0, []))
      obtain ⟨n15, l15, h⟩ := v_al h (by decide +kernel : pins 170 144 = some (5, 145, 0, 0, [])) (v := t) rfl
      obtain ⟨n16, w145, l16, ⟨e145, i145⟩, h⟩ := u_ic h (by decide +kernel : pins 170 145 = some (0, 146, 1, 0, [])) (by decide)
      obtain ⟨n17, r146, s146, l17, h146, h⟩ := pinv_call h (by decide +kernel : pins 170 146 = some (36, 149, 168, 0, [2]))
      have h146 : prun n17 168 0 (lv_args 0 [.ref t, .int w145]) [] σ = some (r146, s146) := h146
      obtain ⟨w146, er146, S146, f146⟩ := take_1 W h146 e145
      have er146 : r146 = some (.int w146) := er146
      subst er146
      have h : prun n17 170 149 [(5, .int c), (4, .int nn), (3, .int fr), (0, .ref t), (1, .ref (A k)), (2, .int i)] [.int w146, .int w143, .ref (A k)] s146 = some x := h
      obtain ⟨n18, s149, l18, b149, S149, u149, h⟩ := w_iast S146.1 h (by decide +kernel : pins 170 149 = some (28, 150, 0, 0, [])) hk
      obtain ⟨n19, l19, h⟩ := v_al h (by decide +kernel : pins 170 150 = some (5, 151, 1, 0, [])) (v := (A k)) rfl
      obtain ⟨n20, l20, h⟩ := v_il h (by decide +kernel : pins 170 151 = some (3, 152, 2, 0, [])) (v := i) rfl
      obtain ⟨n21, l21, h⟩ := v_il h (by decide +kernel : pins 170 152 = some (3, 154, 5, 0, [])) (v := c) rfl
      obtain ⟨n22, w154, l22, e154, h⟩ := u_add h (by decide +kernel : pins 170 154 = some (10, 155, 0, 0, []))
      obtain ⟨n23, w155, l23, b155, e155, h⟩ := w_iald S149.1 h (by decide +kernel : pins 170 155 = some (24, 156, 0, 0, [])) hk
      obtain ⟨n24, r156, s156, l24, h156, h⟩ := pinv_call h (by decide +kernel : pins 170 156 = some (36, 159, 139, 1, [1]))
      have h156 : prun n24 139 0 (lv_args 0 [.int w155]) [] s149 = some (r156, s156) := h156
      obtain ⟨es156, w156, er156, f156⟩ := isSign_ S149.1 h156
      have er156 : r156 = some (.int w156) := er156
      have et156 : s156 = s149 := es156
      rw [et156] at h
      subst er156
      have h : prun n24 170 159 [(5, .int c), (4, .int nn), (3, .int fr), (0, .ref t), (1, .ref (A k)), (2, .int i)] [.int w156] s149 = some x := h
      obtain ⟨n25, l25, ⟨c159, h⟩ | ⟨c159, h⟩⟩ := u_if1 h (by decide +kernel : pins 170 159 = some (16, 162, 1, ((167 : Nat) : Int), []))
      · obtain ⟨n26, w167, l26, e167, h⟩ := u_inc h (by decide +kernel : pins 170 167 = some (9, 170, 5, 1, [])) (v := c) rfl
        have h : prun n26 170 170 [(5, .int w167), (4, .int nn), (3, .int fr), (0, .ref t), (1, .ref (A k)), (2, .int i)] [] s149 = some x := h
        obtain ⟨n27, l27, h⟩ := u_go h (by decide +kernel : pins 170 170 = some (20, 173, 0, ((132 : Nat) : Int), []))
        have h := prun_lv h (lv' := [(5, .int w167), (4, .int nn), (3, .int fr), (0, .ref t), (1, .ref (A k)), (2, .int i)]) (lvLe.cons (lvLe.cons (lvLe.cons (lvLe.cons (lvLe.cons (lvLe.cons lvLe.nil rfl) rfl) rfl) rfl) rfl) rfl) (by decide : ([5, 4, 3, 0, 1, 2] : List Nat).Nodup) (by decide : ([5, 4, 3, 0, 1, 2] : List Nat).Nodup)
        have q143 : w143.toInt = i.toInt + c.toInt := addc e143 rfl (by omega) (by omega) (by omega) (by omega)
        have n143 : w143.toNatClampNeg = i.toNatClampNeg + c.toNatClampNeg := by rw [clampc q143 (by omega)]; show _ = i.toInt.toNat + c.toInt.toNat; omega
        have q167 : w167.toInt = c.toInt + 1 := addc e167 (by decide : (Int32.ofInt 1).toInt = 1) (by omega) (by omega) (by decide) (by decide)
        have e154 : w154 = w143 := by rw [e154, e143]
        rw [e154, u149, gI_eq] at e155
        have fr0 : ∀ j q, ¬ j = k → ¬ j = 59 → ¬ j = 60 → vw t A s149 j q = vw t A σ j q := by
          intro j q h1 h2 h3
          rw [u149, up_ne h1]
          rcases f146 with ⟨_, f⟩ | ⟨_, _, _, _, _, _, f⟩
          · rw [f, up_ne h3]
          · rw [f, up_ne h2]
        have fr1 : ∀ q, ¬ q = i.toNatClampNeg + c.toNatClampNeg → vw t A s149 k q = vw t A σ k q := by
          intro q h1
          rw [u149, up_ni hk (by rw [n143]; exact h1)]
          rcases f146 with ⟨_, f⟩ | ⟨_, _, _, _, _, _, f⟩
          · rw [f, up_ne (by omega)]
          · rw [f, up_ne (by omega)]
        have gg : ¬ gI (vw t A s149) 60 0 = 0 → ¬ gI (vw t A σ) 60 0 = 0 := by
          intro hg q
          apply hg
          rw [u149, gI_ne (by omega)]
          rcases f146 with ⟨_, f⟩ | ⟨_, _, _, _, _, _, f⟩
          · rw [f, gI_sc (by decide)]
          · rw [f, gI_ne (by decide)]; exact q
        have s40 : ¬ w146.toInt = 40 := by
          rcases f156 with e | ⟨_, e⟩
          · rw [e] at c159; exact absurd rfl c159
          · rw [e155] at e; exact e
        have I' : 1 ≤ w167.toInt ∧ w167.toInt ≤ nn.toInt + 1 ∧ (¬ gI (vw t A s149) 60 0 = 0 → (gI (vw t A s149) 59 0).toInt = fr.toInt + w167.toInt ∧ ∀ d : Nat, 1 ≤ d → (d : Int) < w167.toInt → ¬ (gI (vw t A s149) k (i.toNatClampNeg + d)).toInt = 40 ∧ ¬ (gI (vw t A s149) 57 (fr.toNatClampNeg + d)).toInt = 40) := by
          refine ⟨by omega, by omega, fun hg => ?_⟩
          obtain ⟨j1, j2⟩ := I3 (gg hg)
          rcases f146 with ⟨_, f⟩ | ⟨a1, a2, a3, a4, a, a5, f⟩
          · exfalso
            apply hg
            rw [u149, gI_ne (by omega), f, gI_sc (by decide)]
          · refine ⟨?_, fun d d1 d2 => ?_⟩
            · rw [u149, gI_ne (by omega), f, gI_sc (by decide), a5, j1, q167]; omega
            · have ne : ¬ (57 : Nat) = k := by omega
              by_cases e : (d : Int) = c.toInt
              · have ed : d = c.toNatClampNeg := by show d = c.toInt.toNat; omega
                have ea : (gI (vw t A σ) 59 0).toNatClampNeg = fr.toNatClampNeg + d := by show (gI (vw t A σ) 59 0).toInt.toNat = fr.toInt.toNat + d; omega
                constructor
                · rw [u149, ed, ← n143, gI_eq]; exact s40
                · rw [u149, gI_ne ne, f, gI_ne (by decide), ← ea, ← a4]; exact s40
              · obtain ⟨y1, y2⟩ := j2 d d1 (by omega)
                constructor
                · unfold gI; rw [fr1 _ (by show ¬ _ + d = _ + c.toInt.toNat; omega)]; exact y1
                · unfold gI; rw [fr0 57 _ ne (by decide) (by decide)]; exact y2
        obtain ⟨r1, r2, r3, r4, r5, r6⟩ := ih n27 (by omega) _ _ x S149.1 I' h
        refine ⟨r1, (S146.tr S149).tr r2, fun j q h1 h2 h3 h4 => (r3 j q h1 h2 h3 h4).trans (fr0 j q h1 h2 h3), fun q hq => (r4 q hq).trans (fr1 q (by show ¬ q = _ + c.toInt.toNat; omega)), fun hg => ⟨gg (r5 hg).1, (r5 hg).2⟩, fun hg d d1 d2 => ?_⟩
        have := r6 hg d d1 d2
        unfold gI at this
        rw [fr0 57 _ (by omega) (by decide) (by decide)] at this
        exact this
      · obtain ⟨n28, l28, h⟩ := v_al h (by decide +kernel : pins 170 162 = some (5, 163, 0, 0, [])) (v := t) rfl
        obtain ⟨n29, w163, l29, ⟨e163, i163⟩, h⟩ := u_ic h (by decide +kernel : pins 170 163 = some (0, 164, 0, 0, [])) (by decide)
        obtain ⟨n30, s164, l30, S164, u164, h⟩ := w_put (k := 60) S149.1 h (by decide +kernel : pins 170 164 = some (23, 167, 13, 60, [])) (by decide)
        obtain ⟨n31, w167, l31, e167, h⟩ := u_inc h (by decide +kernel : pins 170 167 = some (9, 170, 5, 1, [])) (v := c) rfl
        have h : prun n31 170 170 [(5, .int w167), (4, .int nn), (3, .int fr), (0, .ref t), (1, .ref (A k)), (2, .int i)] [] s164 = some x := h
        obtain ⟨n32, l32, h⟩ := u_go h (by decide +kernel : pins 170 170 = some (20, 173, 0, ((132 : Nat) : Int), []))
        have h := prun_lv h (lv' := [(5, .int w167), (4, .int nn), (3, .int fr), (0, .ref t), (1, .ref (A k)), (2, .int i)]) (lvLe.cons (lvLe.cons (lvLe.cons (lvLe.cons (lvLe.cons (lvLe.cons lvLe.nil rfl) rfl) rfl) rfl) rfl) rfl) (by decide : ([5, 4, 3, 0, 1, 2] : List Nat).Nodup) (by decide : ([5, 4, 3, 0, 1, 2] : List Nat).Nodup)
        have q143 : w143.toInt = i.toInt + c.toInt := addc e143 rfl (by omega) (by omega) (by omega) (by omega)
        have n143 : w143.toNatClampNeg = i.toNatClampNeg + c.toNatClampNeg := by rw [clampc q143 (by omega)]; show _ = i.toInt.toNat + c.toInt.toNat; omega
        have q167 : w167.toInt = c.toInt + 1 := addc e167 (by decide : (Int32.ofInt 1).toInt = 1) (by omega) (by omega) (by decide) (by decide)
        have e154 : w154 = w143 := by rw [e154, e143]
        rw [e154, u149, gI_eq] at e155
        have fr0 : ∀ j q, ¬ j = k → ¬ j = 59 → ¬ j = 60 → vw t A s164 j q = vw t A σ j q := by
          intro j q h1 h2 h3
          rw [u164, up_ne h3]; rw [u149, up_ne h1]
          rcases f146 with ⟨_, f⟩ | ⟨_, _, _, _, _, _, f⟩
          · rw [f, up_ne h3]
          · rw [f, up_ne h2]
        have fr1 : ∀ q, ¬ q = i.toNatClampNeg + c.toNatClampNeg → vw t A s164 k q = vw t A σ k q := by
          intro q h1
          rw [u164, up_ne (by omega)]; rw [u149, up_ni hk (by rw [n143]; exact h1)]
          rcases f146 with ⟨_, f⟩ | ⟨_, _, _, _, _, _, f⟩
          · rw [f, up_ne (by omega)]
          · rw [f, up_ne (by omega)]
        have g60 : gI (vw t A s164) 60 0 = 0 := by rw [u164, gI_sc (by decide), e163]; rfl
        have I' : 1 ≤ w167.toInt ∧ w167.toInt ≤ nn.toInt + 1 ∧ (¬ gI (vw t A s164) 60 0 = 0 → (gI (vw t A s164) 59 0).toInt = fr.toInt + w167.toInt ∧ ∀ d : Nat, 1 ≤ d → (d : Int) < w167.toInt → ¬ (gI (vw t A s164) k (i.toNatClampNeg + d)).toInt = 40 ∧ ¬ (gI (vw t A s164) 57 (fr.toNatClampNeg + d)).toInt = 40) := ⟨by omega, by omega, fun hg => absurd g60 hg⟩
        have gg : ¬ gI (vw t A s164) 60 0 = 0 → ¬ gI (vw t A σ) 60 0 = 0 := fun hg => absurd g60 hg
        obtain ⟨r1, r2, r3, r4, r5, r6⟩ := ih n32 (by omega) _ _ x S164.1 I' h
        refine ⟨r1, ((S146.tr S149).tr S164).tr r2, fun j q h1 h2 h3 h4 => (r3 j q h1 h2 h3 h4).trans (fr0 j q h1 h2 h3), fun q hq => (r4 q hq).trans (fr1 q (by show ¬ q = _ + c.toInt.toNat; omega)), fun hg => ⟨gg (r5 hg).1, (r5 hg).2⟩, fun hg d d1 d2 => ?_⟩
        have := r6 hg d d1 d2
        unfold gI at this
        rw [fr0 57 _ (by omega) (by decide) (by decide)] at this
        exact this
theorem tw_A {t : Nat} {A : Nat → Nat} {k : Nat} {i nn fr p pp : Int32} (hk2 : k = 62 ∨ k = 63) (hi : 0 ≤ i.toInt ∧ i.toInt ≤ 1000) (hp : 0 ≤ p.toInt ∧ p.toInt < 200) (hpp : 1 ≤ pp.toInt ∧ pp.toInt ≤ 15) : ∀ (n : Nat) (c : Int32) (σ : ps) (x : Option Value × ps), Wld t A σ → (0 ≤ c.toInt ∧ c.toInt ≤ pp.toInt + 1 ∧ gI (vw t A σ) 57 p.toNatClampNeg = pp ∧ ∀ d : Nat, (d : Int) < c.toInt → gI (vw t A σ) k (i.toNatClampNeg + d) = gI (vw t A σ) 57 (p.toNatClampNeg + d)) → prun n 170 56 [(6, .int c), (5, .int p), (4, .int nn), (3, .int fr), (0, .ref t), (1, .ref (A k)), (2, .int i)] [] σ = some x → x.1 = none ∧ SP t A σ x.2 ∧ (∀ j q, ¬ j = k → vw t A x.2 j q = vw t A σ j q) ∧ (∀ q, (q < i.toNatClampNeg ∨ i.toNatClampNeg + 16 ≤ q) → vw t A x.2 k q = vw t A σ k q) ∧ ∀ d : Nat, (d : Int) ≤ pp.toInt → gI (vw t A x.2) k (i.toNatClampNeg + d) = gI (vw t A σ) 57 (p.toNatClampNeg + d) := by
  intro n
  induction n using Nat.strongRecOn with
  | ind n ih =>
    intro c σ x W I h
    have hk : isRw k = true := by rcases hk2 with e | e <;> rw [e] <;> decide
    obtain ⟨I1, I2, I3, I4⟩ := I
    obtain ⟨n1, l1, h⟩ := v_il h (by decide +kernel : pins 170 56 = some (3, 58, 6, 0, [])) (v := c) rfl
    obtain ⟨n2, l2, h⟩ := v_al h (by decide +kernel : pins 170 58 = some (5, 59, 0, 0, [])) (v := t) rfl
    obtain ⟨n3, l3, h⟩ := w_row (k := 57) W h (by decide +kernel : pins 170 59 = some (22, 62, 13, 57, [])) (by decide)
    obtain ⟨n4, l4, h⟩ := v_il h (by decide +kernel : pins 170 62 = some (3, 64, 5, 0, [])) (v := p) rfl
    obtain ⟨n5, w64, l5, b64, e64, h⟩ := w_iald W h (by decide +kernel : pins 170 64 = some (24, 65, 0, 0, [])) (by decide)
    obtain ⟨n6, l6, ⟨c65, h⟩ | ⟨c65, h⟩⟩ := u_ic4 h (by decide +kernel : pins 170 65 = some (17, 68, 4, ((90 : Nat) : Int), []))
    · have ex := u_ret37 h (by decide +kernel : pins 170 90 = some (37, 91, 0, 0, []))
      subst ex
      refine ⟨rfl, SP.rf W, fun j q _ => rfl, fun q _ => rfl, fun d hd => I4 d ?_⟩
      rw [I3] at e64
      rw [e64] at c65
      omega
    · obtain ⟨n8, l8, h⟩ := v_al h (by decide +kernel : pins 170 68 = some (5, 69, 1, 0, [])) (v := (A k)) rfl
      obtain ⟨n9, l9, h⟩ := v_il h (by decide +kernel : pins 170 69 = some (3, 70, 2, 0, [])) (v := i) rfl
      obtain ⟨n10, l10, h⟩ := v_il h (by decide +kernel : pins 170 70 = some (3, 72, 6, 0, [])) (v := c) rfl
      obtain ⟨n11, w72, l11, e72, h⟩ := u_add h (by decide +kernel : pins 170 72 = some (10, 73, 0, 0, []))
      obtain ⟨n12, l12, h⟩ := v_al h (by decide +kernel : pins 170 73 = some (5, 74, 0, 0, [])) (v := t) rfl
      obtain ⟨n13, l13, h⟩ := w_row (k := 57) W h (by decide +kernel : pins 170 74 = some (22, 77, 13, 57, [])) (by decide)
      obtain ⟨n14, l14, h⟩ := v_il h (by decide +kernel : pins 170 77 = some (3, 79, 5, 0, [])) (v := p) rfl
      obtain ⟨n15, l15, h⟩ := v_il h (by decide +kernel : pins 170 79 = some (3, 81, 6, 0, [])) (v := c) rfl
      obtain ⟨n16, w81, l16, e81, h⟩ := u_add h (by decide +kernel : pins 170 81 = some (10, 82, 0, 0, []))
      obtain ⟨n17, w82, l17, b82, e82, h⟩ := w_iald W h (by decide +kernel : pins 170 82 = some (24, 83, 0, 0, [])) (by decide)
      obtain ⟨n18, s83, l18, b83, S83, u83, h⟩ := w_iast W h (by decide +kernel : pins 170 83 = some (28, 84, 0, 0, [])) hk
      obtain ⟨n19, w84, l19, e84, h⟩ := u_inc h (by decide +kernel : pins 170 84 = some (9, 87, 6, 1, [])) (v := c) rfl
      have h : prun n19 170 87 [(6, .int w84), (5, .int p), (4, .int nn), (3, .int fr), (0, .ref t), (1, .ref (A k)), (2, .int i)] [] s83 = some x := h
      obtain ⟨n20, l20, h⟩ := u_go h (by decide +kernel : pins 170 87 = some (20, 90, 0, ((56 : Nat) : Int), []))
      have h := prun_lv h (lv' := [(6, .int w84), (5, .int p), (4, .int nn), (3, .int fr), (0, .ref t), (1, .ref (A k)), (2, .int i)]) (lvLe.cons (lvLe.cons (lvLe.cons (lvLe.cons (lvLe.cons (lvLe.cons (lvLe.cons lvLe.nil rfl) rfl) rfl) rfl) rfl) rfl) rfl) (by decide : ([6, 5, 4, 3, 0, 1, 2] : List Nat).Nodup) (by decide : ([6, 5, 4, 3, 0, 1, 2] : List Nat).Nodup)
      have q72 : w72.toInt = i.toInt + c.toInt := addc e72 rfl (by omega) (by omega) (by omega) (by omega)
      have n72 : w72.toNatClampNeg = i.toNatClampNeg + c.toNatClampNeg := by rw [clampc q72 (by omega)]; show _ = i.toInt.toNat + c.toInt.toNat; omega
      have q81 : w81.toInt = p.toInt + c.toInt := addc e81 rfl (by omega) (by omega) (by omega) (by omega)
      have n81 : w81.toNatClampNeg = p.toNatClampNeg + c.toNatClampNeg := by rw [clampc q81 (by omega)]; show _ = p.toInt.toNat + c.toInt.toNat; omega
      have q84 : w84.toInt = c.toInt + 1 := addc e84 (by decide : (Int32.ofInt 1).toInt = 1) (by omega) (by omega) (by decide) (by decide)
      rw [I3] at e64
      rw [e64] at c65
      have ne : ¬ (57 : Nat) = k := by omega
      have fr1 : ∀ q, ¬ q = i.toNatClampNeg + c.toNatClampNeg → vw t A s83 k q = vw t A σ k q := by
        intro q h1
        rw [u83, up_ni hk (by rw [n72]; exact h1)]
      have I' : 0 ≤ w84.toInt ∧ w84.toInt ≤ pp.toInt + 1 ∧ gI (vw t A s83) 57 p.toNatClampNeg = pp ∧ ∀ d : Nat, (d : Int) < w84.toInt → gI (vw t A s83) k (i.toNatClampNeg + d) = gI (vw t A s83) 57 (p.toNatClampNeg + d) := by
        refine ⟨by omega, by omega, by rw [u83, gI_ne ne]; exact I3, fun d hd => ?_⟩
        rw [u83, gI_ne (j' := 57) ne]
        by_cases e : (d : Int) = c.toInt
        · have ed : d = c.toNatClampNeg := by show d = c.toInt.toNat; omega
          rw [ed, ← n72, gI_eq, e82, n81]
        · rw [gI_ni hk (by rw [n72]; show ¬ _ + d = _ + c.toInt.toNat; omega)]
          exact I4 d (by omega)
      obtain ⟨r1, r2, r3, r4, r5⟩ := ih n20 (by omega) _ _ x S83.1 I' h
      refine ⟨r1, S83.tr r2, fun j q h1 => (r3 j q h1).trans (by rw [u83, up_ne h1]), fun q hq => (r4 q hq).trans (fr1 q (by show ¬ q = i.toInt.toNat + c.toInt.toNat; have hq : q < i.toInt.toNat ∨ i.toInt.toNat + 16 ≤ q := hq; omega)), fun d hd => ?_⟩
      rw [r5 d hd, u83, gI_ne ne]
/-- marks tell of the packet -/
def JV (V : Nat → Nat → Value) : Prop := ∀ p : Nat, p < 200 → ¬ gI V 61 p = 0 → 1 ≤ (gI V 57 p).toInt ∧ (gI V 57 p).toInt ≤ 15 ∧ (p : Int) + (gI V 57 p).toInt < 200 ∧ ∀ d : Nat, 1 ≤ d → (d : Int) ≤ (gI V 57 p).toInt → ¬ (gI V 57 (p + d)).toInt = 40
def Wok (V : Nat → Nat → Value) (k i : Nat) : Prop := (gI V k i).toInt ≤ 15 ∧ ∀ d : Nat, 1 ≤ d → (d : Int) ≤ (gI V k i).toInt → ¬ (gI V k (i + d)).toInt = 40
theorem takeWord_ {t n : Nat} {A : Nat → Nat} {k : Nat} {i : Int32} {σ : ps} {x : Option Value × ps} (W : Wld t A σ) (h : prun n 170 0 (lv_args 0 [.ref t, .ref (A k), .int i]) [] σ = some x) (hk2 : k = 62 ∨ k = 63) (hi : 0 ≤ i.toInt ∧ i.toInt ≤ 1000) (hps : (gI (vw t A σ) 58 0).toInt ≤ 200) (J : JV (vw t A σ)) : x.1 = none ∧ SP t A σ x.2 ∧ (∀ j q, ¬ j = k → ¬ j = 59 → ¬ j = 60 → ¬ j = 61 → vw t A x.2 j q = vw t A σ j q) ∧ (∀ q, (q < i.toNatClampNeg ∨ i.toNatClampNeg + 16 ≤ q) → vw t A x.2 k q = vw t A σ k q) ∧ (¬ gI (vw t A x.2) 60 0 = 0 → ¬ gI (vw t A σ) 60 0 = 0 ∧ Wok (vw t A x.2) k i.toNatClampNeg) ∧ JV (vw t A x.2) := by
  have hk : isRw k = true := by rcases hk2 with e | e <;> rw [e] <;> decide
  have h : prun n 170 0 [(0, .ref t), (1, .ref (A k)), (2, .int i)] [] σ = some x := h
  obtain ⟨n1, l1, h⟩ := v_al h (by decide +kernel : pins 170 0 = some (5, 1, 0, 0, [])) (v := t) rfl
  obtain ⟨n2, w1, l2, e1, h⟩ := w_fi (k := 59) W h (by decide +kernel : pins 170 1 = some (22, 4, 13, 59, [])) (by decide)
  obtain ⟨n3, l3, h⟩ := v_is h (by decide +kernel : pins 170 4 = some (6, 5, 3, 0, []))
  have h : prun n3 170 5 [(3, .int w1), (0, .ref t), (1, .ref (A k)), (2, .int i)] [] σ = some x := h
  obtain ⟨n4, l4, h⟩ := v_al h (by decide +kernel : pins 170 5 = some (5, 6, 0, 0, [])) (v := t) rfl
  obtain ⟨n5, w6, l5, ⟨e6, i6⟩, h⟩ := u_ic h (by decide +kernel : pins 170 6 = some (0, 7, 1, 0, [])) (by decide)
  obtain ⟨n6, r7, s7, l6, h7, h⟩ := pinv_call h (by decide +kernel : pins 170 7 = some (36, 10, 168, 0, [2]))
  have h7 : prun n6 168 0 (lv_args 0 [.ref t, .int w6]) [] σ = some (r7, s7) := h7
  obtain ⟨w7, er7, S7, f7⟩ := take_1 W h7 e6
  have er7 : r7 = some (.int w7) := er7
  subst er7
  have h : prun n6 170 10 [(3, .int w1), (0, .ref t), (1, .ref (A k)), (2, .int i)] [.int w7] s7 = some x := h
  obtain ⟨n7, l7, h⟩ := v_is h (by decide +kernel : pins 170 10 = some (6, 12, 4, 0, []))
  have h : prun n7 170 12 [(4, .int w7), (3, .int w1), (0, .ref t), (1, .ref (A k)), (2, .int i)] [] s7 = some x := h
  obtain ⟨n8, l8, h⟩ := v_al h (by decide +kernel : pins 170 12 = some (5, 13, 1, 0, [])) (v := (A k)) rfl
  obtain ⟨n9, l9, h⟩ := v_il h (by decide +kernel : pins 170 13 = some (3, 14, 2, 0, [])) (v := i) rfl
  obtain ⟨n10, w14, l10, ⟨e14, i14⟩, h⟩ := u_ic h (by decide +kernel : pins 170 14 = some (0, 15, 0, 0, [])) (by decide)
  obtain ⟨n11, s15, l11, b15, S15, u15, h⟩ := w_iast S7.1 h (by decide +kernel : pins 170 15 = some (28, 16, 0, 0, [])) hk
  obtain ⟨n12, l12, h⟩ := v_il h (by decide +kernel : pins 170 16 = some (3, 18, 4, 0, [])) (v := w7) rfl
  obtain ⟨n13, w18, l13, ⟨e18, i18⟩, h⟩ := u_ic h (by decide +kernel : pins 170 18 = some (0, 20, 127, 0, [])) (by decide)
  obtain ⟨n14, l14, ⟨c20, h⟩ | ⟨c20, h⟩⟩ := u_ic5 h (by decide +kernel : pins 170 20 = some (17, 23, 5, ((91 : Nat) : Int), []))
  · obtain ⟨n15, l15, h⟩ := v_il h (by decide +kernel : pins 170 91 = some (3, 93, 4, 0, [])) (v := w7) rfl
    obtain ⟨n16, w93, l16, ⟨e93, i93⟩, h⟩ := u_ic h (by decide +kernel : pins 170 93 = some (0, 94, 1, 0, [])) (by decide)
    obtain ⟨n17, l17, ⟨c94, h⟩ | ⟨c94, h⟩⟩ := u_ic2 h (by decide +kernel : pins 170 94 = some (17, 97, 2, ((118 : Nat) : Int), []))
    · obtain ⟨n18, l18, h⟩ := v_al h (by decide +kernel : pins 170 118 = some (5, 119, 0, 0, [])) (v := t) rfl
      obtain ⟨n19, w119, l19, ⟨e119, i119⟩, h⟩ := u_ic h (by decide +kernel : pins 170 119 = some (0, 120, 0, 0, [])) (by decide)
      obtain ⟨n20, s120, l20, S120, u120, h⟩ := w_put (k := 60) S15.1 h (by decide +kernel : pins 170 120 = some (23, 123, 13, 60, [])) (by decide)
      have ex := u_ret37 h (by decide +kernel : pins 170 123 = some (37, 124, 0, 0, []))
      subst ex
      have hk60 : ¬ (60 : Nat) = k := by omega
      have hk61 : ¬ (61 : Nat) = k := by omega
      have hk59 : ¬ (59 : Nat) = k := by omega
      have hk57 : ¬ (57 : Nat) = k := by omega
      have hk58 : ¬ (58 : Nat) = k := by omega
      have V10 : ∀ j q, ¬ j = 59 → ¬ j = 60 → vw t A s7 j q = vw t A σ j q := by
        intro j q h1 h2
        rcases f7 with ⟨_, f⟩ | ⟨_, _, _, _, _, _, f⟩
        · rw [f, up_ne h2]
        · rw [f, up_ne h1]
      have g10 : ¬ gI (vw t A s7) 60 0 = 0 → ¬ gI (vw t A σ) 60 0 = 0 := by
        intro hg q
        apply hg
        rcases f7 with ⟨_, f⟩ | ⟨_, _, _, _, _, _, f⟩
        · rw [f, gI_sc (by decide)]
        · rw [f, gI_ne (by decide)]; exact q
      refine ⟨rfl, ((S7.tr S15).tr S120), fun j q h1 h2 h3 h4 => ?_, fun q hq => ?_, fun hg => absurd ?_ hg, ?_⟩
      · show vw t A s120 j q = _
        rw [u120, up_ne h3, u15, up_ne h1, V10 j q h2 h3]
      · show vw t A s120 k q = _
        rw [u120, up_ne (by omega), u15, up_ni hk (by show ¬ q = i.toInt.toNat; have hq : q < i.toInt.toNat ∨ i.toInt.toNat + 16 ≤ q := hq; omega), V10 k q (by omega) (by omega)]
      · show gI (vw t A s120) 60 0 = 0
        rw [u120, gI_sc (by decide), e119]; rfl
      · show JV (vw t A s120)
        intro p hp
        rw [show gI (vw t A s120) 61 p = gI (vw t A σ) 61 p by rw [u120, gI_ne (by decide), u15, gI_ne hk61]; unfold gI; rw [V10 61 p (by decide) (by decide)]]
        have e57 : ∀ q, gI (vw t A s120) 57 q = gI (vw t A σ) 57 q := by intro q; rw [u120, gI_ne (by decide), u15, gI_ne hk57]; unfold gI; rw [V10 57 q (by decide) (by decide)]
        intro hm
        obtain ⟨a1, a2, a3, a4⟩ := J p hp hm
        rw [e57 p]
        exact ⟨a1, a2, a3, fun d d1 d2 => by rw [e57]; exact a4 d d1 d2⟩
    · obtain ⟨n22, l22, h⟩ := v_il h (by decide +kernel : pins 170 97 = some (3, 99, 4, 0, [])) (v := w7) rfl
      obtain ⟨n23, w99, l23, ⟨e99, i99⟩, h⟩ := u_ic h (by decide +kernel : pins 170 99 = some (0, 101, 15, 0, [])) (by decide)
      obtain ⟨n24, l24, ⟨c101, h⟩ | ⟨c101, h⟩⟩ := u_ic4 h (by decide +kernel : pins 170 101 = some (17, 104, 4, ((118 : Nat) : Int), []))
      · obtain ⟨n25, l25, h⟩ := v_al h (by decide +kernel : pins 170 118 = some (5, 119, 0, 0, [])) (v := t) rfl
        obtain ⟨n26, w119, l26, ⟨e119, i119⟩, h⟩ := u_ic h (by decide +kernel : pins 170 119 = some (0, 120, 0, 0, [])) (by decide)
        obtain ⟨n27, s120, l27, S120, u120, h⟩ := w_put (k := 60) S15.1 h (by decide +kernel : pins 170 120 = some (23, 123, 13, 60, [])) (by decide)
        have ex := u_ret37 h (by decide +kernel : pins 170 123 = some (37, 124, 0, 0, []))
        subst ex
        have hk60 : ¬ (60 : Nat) = k := by omega
        have hk61 : ¬ (61 : Nat) = k := by omega
        have hk59 : ¬ (59 : Nat) = k := by omega
        have hk57 : ¬ (57 : Nat) = k := by omega
        have hk58 : ¬ (58 : Nat) = k := by omega
        have V10 : ∀ j q, ¬ j = 59 → ¬ j = 60 → vw t A s7 j q = vw t A σ j q := by
          intro j q h1 h2
          rcases f7 with ⟨_, f⟩ | ⟨_, _, _, _, _, _, f⟩
          · rw [f, up_ne h2]
          · rw [f, up_ne h1]
        have g10 : ¬ gI (vw t A s7) 60 0 = 0 → ¬ gI (vw t A σ) 60 0 = 0 := by
          intro hg q
          apply hg
          rcases f7 with ⟨_, f⟩ | ⟨_, _, _, _, _, _, f⟩
          · rw [f, gI_sc (by decide)]
          · rw [f, gI_ne (by decide)]; exact q
        refine ⟨rfl, ((S7.tr S15).tr S120), fun j q h1 h2 h3 h4 => ?_, fun q hq => ?_, fun hg => absurd ?_ hg, ?_⟩
        · show vw t A s120 j q = _
          rw [u120, up_ne h3, u15, up_ne h1, V10 j q h2 h3]
        · show vw t A s120 k q = _
          rw [u120, up_ne (by omega), u15, up_ni hk (by show ¬ q = i.toInt.toNat; have hq : q < i.toInt.toNat ∨ i.toInt.toNat + 16 ≤ q := hq; omega), V10 k q (by omega) (by omega)]
        · show gI (vw t A s120) 60 0 = 0
          rw [u120, gI_sc (by decide), e119]; rfl
        · show JV (vw t A s120)
          intro p hp
          rw [show gI (vw t A s120) 61 p = gI (vw t A σ) 61 p by rw [u120, gI_ne (by decide), u15, gI_ne hk61]; unfold gI; rw [V10 61 p (by decide) (by decide)]]
          have e57 : ∀ q, gI (vw t A s120) 57 q = gI (vw t A σ) 57 q := by intro q; rw [u120, gI_ne (by decide), u15, gI_ne hk57]; unfold gI; rw [V10 57 q (by decide) (by decide)]
          intro hm
          obtain ⟨a1, a2, a3, a4⟩ := J p hp hm
          rw [e57 p]
          exact ⟨a1, a2, a3, fun d d1 d2 => by rw [e57]; exact a4 d d1 d2⟩
      · obtain ⟨n29, l29, h⟩ := v_al h (by decide +kernel : pins 170 104 = some (5, 105, 0, 0, [])) (v := t) rfl
        obtain ⟨n30, w105, l30, e105, h⟩ := w_fi (k := 59) S15.1 h (by decide +kernel : pins 170 105 = some (22, 108, 13, 59, [])) (by decide)
        obtain ⟨n31, l31, h⟩ := v_il h (by decide +kernel : pins 170 108 = some (3, 110, 4, 0, [])) (v := w7) rfl
        obtain ⟨n32, w110, l32, e110, h⟩ := u_add h (by decide +kernel : pins 170 110 = some (10, 111, 0, 0, []))
        obtain ⟨n33, l33, h⟩ := v_al h (by decide +kernel : pins 170 111 = some (5, 112, 0, 0, [])) (v := t) rfl
        obtain ⟨n34, w112, l34, e112, h⟩ := w_fi (k := 58) S15.1 h (by decide +kernel : pins 170 112 = some (22, 115, 13, 58, [])) (by decide)
        obtain ⟨n35, l35, ⟨c115, h⟩ | ⟨c115, h⟩⟩ := u_ic5 h (by decide +kernel : pins 170 115 = some (17, 118, 5, ((124 : Nat) : Int), []))
        · obtain ⟨n36, l36, h⟩ := v_al h (by decide +kernel : pins 170 124 = some (5, 125, 1, 0, [])) (v := (A k)) rfl
          obtain ⟨n37, l37, h⟩ := v_il h (by decide +kernel : pins 170 125 = some (3, 126, 2, 0, [])) (v := i) rfl
          obtain ⟨n38, l38, h⟩ := v_il h (by decide +kernel : pins 170 126 = some (3, 128, 4, 0, [])) (v := w7) rfl
          obtain ⟨n39, s128, l39, b128, S128, u128, h⟩ := w_iast S15.1 h (by decide +kernel : pins 170 128 = some (28, 129, 0, 0, [])) hk
          obtain ⟨n40, w129, l40, ⟨e129, i129⟩, h⟩ := u_ic h (by decide +kernel : pins 170 129 = some (0, 130, 1, 0, [])) (by decide)
          obtain ⟨n41, l41, h⟩ := v_is h (by decide +kernel : pins 170 130 = some (6, 132, 5, 0, []))
          have h : prun n41 170 132 [(5, .int w129), (4, .int w7), (3, .int w1), (0, .ref t), (1, .ref (A k)), (2, .int i)] [] s128 = some x := h
          have h := prun_lv h (lv' := [(5, .int w129), (4, .int w7), (3, .int w1), (0, .ref t), (1, .ref (A k)), (2, .int i)]) (lvLe.cons (lvLe.cons (lvLe.cons (lvLe.cons (lvLe.cons (lvLe.cons lvLe.nil rfl) rfl) rfl) rfl) rfl) rfl) (by decide : ([5, 4, 3, 0, 1, 2] : List Nat).Nodup) (by decide : ([5, 4, 3, 0, 1, 2] : List Nat).Nodup)
          have hk60 : ¬ (60 : Nat) = k := by omega
          have hk61 : ¬ (61 : Nat) = k := by omega
          have hk59 : ¬ (59 : Nat) = k := by omega
          have hk57 : ¬ (57 : Nat) = k := by omega
          have hk58 : ¬ (58 : Nat) = k := by omega
          have V10 : ∀ j q, ¬ j = 59 → ¬ j = 60 → vw t A s7 j q = vw t A σ j q := by
            intro j q h1 h2
            rcases f7 with ⟨_, f⟩ | ⟨_, _, _, _, _, _, f⟩
            · rw [f, up_ne h2]
            · rw [f, up_ne h1]
          have g10 : ¬ gI (vw t A s7) 60 0 = 0 → ¬ gI (vw t A σ) 60 0 = 0 := by
            intro hg q
            apply hg
            rcases f7 with ⟨_, f⟩ | ⟨_, _, _, _, _, _, f⟩
            · rw [f, gI_sc (by decide)]
            · rw [f, gI_ne (by decide)]; exact q
          rcases f7 with ⟨f0, _⟩ | ⟨a1, a2, a3, a4, aa, a5, f⟩
          · exfalso
            rw [f0] at c94
            rw [i93] at c94
            exact absurd c94 (by decide)
          · have z15 : ∀ j q, ¬ j = k → ¬ j = 59 → vw t A s128 j q = vw t A σ j q := by
              intro j q h1 h2
              rw [u128, up_ne h1, u15, up_ne h1, f, up_ne h2]
            have z59 : gI (vw t A s128) 59 0 = aa := by rw [u128, gI_ne hk59, u15, gI_ne hk59, f, gI_sc (by decide)]
            have zr : ∀ q, ¬ q = i.toNatClampNeg → vw t A s128 k q = vw t A σ k q := by
              intro q h1
              rw [u128, up_ni hk h1, u15, up_ni hk h1, f, up_ne (by omega)]
            have zk : gI (vw t A s128) k i.toNatClampNeg = w7 := by rw [u128, gI_eq]
            rw [i93] at c94
            rw [i99] at c101
            have e1' := e1
            have q105 : w105.toInt = w1.toInt + 1 := by rw [e105, u15, gI_ne hk59, f, gI_sc (by decide), a5, ← e1]
            rw [← e1] at a1 a2 a3 a4
            have q110 : w110.toInt = w105.toInt + w7.toInt := addc e110 rfl (by omega) (by omega) (by omega) (by omega)
            have q112 : w112.toInt ≤ 200 := by rw [e112, u15, gI_ne hk58, f, gI_ne (by decide)]; exact hps
            have wi : (w1.toNatClampNeg : Int) = w1.toInt := n_clamp (by omega)
            obtain ⟨r1, r2, r3, r4, r5, r6⟩ := tw_B (t := t) (A := A) hk2 hi ⟨a1, a2⟩ ⟨by omega, by omega⟩ _ _ _ x S128.1 ⟨by omega, by omega, fun _ => ⟨by rw [z59, a5, ← e1, i129], fun d d1 d2 => by omega⟩⟩ h
            refine ⟨r1, ((S7.tr S15).tr S128).tr r2, fun j q h1 h2 h3 h4 => ?_, fun q hq => ?_, fun hg => ⟨?_, ?_⟩, ?_⟩
            · rw [r3 j q h1 h2 h3 (fun e => h4 e.1), z15 j q h1 h2]
            · have hq' : q < i.toInt.toNat ∨ i.toInt.toNat + 16 ≤ q := hq
              rw [r4 q (by show q ≤ i.toInt.toNat ∨ i.toInt.toNat + 16 ≤ q; omega), zr q (by show ¬ q = i.toInt.toNat; omega)]
            · intro q
              apply (r5 hg).1
              unfold gI at q ⊢
              rw [z15 60 0 hk60 (by decide)]
              exact q
            · have el : gI (vw t A x.2) k i.toNatClampNeg = w7 := by rw [← zk]; unfold gI; rw [r4 _ (Or.inl (Nat.le_refl _))]
              refine ⟨by rw [el]; omega, fun d d1 d2 => ?_⟩
              refine (r5 hg).2 d d1 ?_
              rw [el] at d2
              exact d2
            · intro p hp
              have e57 : ∀ q, gI (vw t A x.2) 57 q = gI (vw t A σ) 57 q := by intro q; unfold gI; rw [r3 57 q hk57 (by decide) (by decide) (fun e => absurd e.1 (by decide)), z15 57 q hk57 (by decide)]
              by_cases ep : p = w1.toNatClampNeg
              · intro hm
                rw [ep] at hm
                have hs := r6 hm
                rw [e57 p, ep, ← a4]
                refine ⟨by omega, by omega, by omega, fun d d1 d2 => ?_⟩
                rw [e57]
                have := hs d d1 d2
                unfold gI at this
                rw [z15 57 _ hk57 (by decide)] at this
                exact this
              · rw [show gI (vw t A x.2) 61 p = gI (vw t A σ) 61 p by unfold gI; rw [r3 61 p hk61 (by decide) (by decide) (fun e => ep e.2), z15 61 p hk61 (by decide)]]
                intro hm
                obtain ⟨a1, a2, a3, a4⟩ := J p hp hm
                rw [e57 p]
                exact ⟨a1, a2, a3, fun d d1 d2 => by rw [e57]; exact a4 d d1 d2⟩
        · obtain ⟨n42, l42, h⟩ := v_al h (by decide +kernel : pins 170 118 = some (5, 119, 0, 0, [])) (v := t) rfl
          obtain ⟨n43, w119, l43, ⟨e119, i119⟩, h⟩ := u_ic h (by decide +kernel : pins 170 119 = some (0, 120, 0, 0, [])) (by decide)
          obtain ⟨n44, s120, l44, S120, u120, h⟩ := w_put (k := 60) S15.1 h (by decide +kernel : pins 170 120 = some (23, 123, 13, 60, [])) (by decide)
          have ex := u_ret37 h (by decide +kernel : pins 170 123 = some (37, 124, 0, 0, []))
          subst ex
          have hk60 : ¬ (60 : Nat) = k := by omega
          have hk61 : ¬ (61 : Nat) = k := by omega
          have hk59 : ¬ (59 : Nat) = k := by omega
          have hk57 : ¬ (57 : Nat) = k := by omega
          have hk58 : ¬ (58 : Nat) = k := by omega
          have V10 : ∀ j q, ¬ j = 59 → ¬ j = 60 → vw t A s7 j q = vw t A σ j q := by
            intro j q h1 h2
            rcases f7 with ⟨_, f⟩ | ⟨_, _, _, _, _, _, f⟩
            · rw [f, up_ne h2]
            · rw [f, up_ne h1]
          have g10 : ¬ gI (vw t A s7) 60 0 = 0 → ¬ gI (vw t A σ) 60 0 = 0 := by
            intro hg q
            apply hg
            rcases f7 with ⟨_, f⟩ | ⟨_, _, _, _, _, _, f⟩
            · rw [f, gI_sc (by decide)]
            · rw [f, gI_ne (by decide)]; exact q
          refine ⟨rfl, ((S7.tr S15).tr S120), fun j q h1 h2 h3 h4 => ?_, fun q hq => ?_, fun hg => absurd ?_ hg, ?_⟩
          · show vw t A s120 j q = _
            rw [u120, up_ne h3, u15, up_ne h1, V10 j q h2 h3]
          · show vw t A s120 k q = _
            rw [u120, up_ne (by omega), u15, up_ni hk (by show ¬ q = i.toInt.toNat; have hq : q < i.toInt.toNat ∨ i.toInt.toNat + 16 ≤ q := hq; omega), V10 k q (by omega) (by omega)]
          · show gI (vw t A s120) 60 0 = 0
            rw [u120, gI_sc (by decide), e119]; rfl
          · show JV (vw t A s120)
            intro p hp
            rw [show gI (vw t A s120) 61 p = gI (vw t A σ) 61 p by rw [u120, gI_ne (by decide), u15, gI_ne hk61]; unfold gI; rw [V10 61 p (by decide) (by decide)]]
            have e57 : ∀ q, gI (vw t A s120) 57 q = gI (vw t A σ) 57 q := by intro q; rw [u120, gI_ne (by decide), u15, gI_ne hk57]; unfold gI; rw [V10 57 q (by decide) (by decide)]
            intro hm
            obtain ⟨a1, a2, a3, a4⟩ := J p hp hm
            rw [e57 p]
            exact ⟨a1, a2, a3, fun d d1 d2 => by rw [e57]; exact a4 d d1 d2⟩
  · obtain ⟨n46, l46, h⟩ := v_il h (by decide +kernel : pins 170 23 = some (3, 25, 4, 0, [])) (v := w7) rfl
    obtain ⟨n47, w25, l47, ⟨e25, i25⟩, h⟩ := u_ic h (by decide +kernel : pins 170 25 = some (0, 28, 128, 0, [])) (by decide)
    obtain ⟨n48, w28, l48, e28, h⟩ := u_sub h (by decide +kernel : pins 170 28 = some (10, 29, 1, 0, []))
    obtain ⟨n49, l49, h⟩ := v_is h (by decide +kernel : pins 170 29 = some (6, 31, 5, 0, []))
    have h : prun n49 170 31 [(5, .int w28), (4, .int w7), (3, .int w1), (0, .ref t), (1, .ref (A k)), (2, .int i)] [] s15 = some x := h
    obtain ⟨n50, l50, h⟩ := v_il h (by decide +kernel : pins 170 31 = some (3, 33, 5, 0, [])) (v := w28) rfl
    obtain ⟨n51, l51, h⟩ := v_il h (by decide +kernel : pins 170 33 = some (3, 34, 3, 0, [])) (v := w1) rfl
    obtain ⟨n52, l52, ⟨c34, h⟩ | ⟨c34, h⟩⟩ := u_ic3 h (by decide +kernel : pins 170 34 = some (17, 37, 3, ((47 : Nat) : Int), []))
    · obtain ⟨n53, l53, h⟩ := v_al h (by decide +kernel : pins 170 47 = some (5, 48, 0, 0, [])) (v := t) rfl
      obtain ⟨n54, w48, l54, ⟨e48, i48⟩, h⟩ := u_ic h (by decide +kernel : pins 170 48 = some (0, 49, 0, 0, [])) (by decide)
      obtain ⟨n55, s49, l55, S49, u49, h⟩ := w_put (k := 60) S15.1 h (by decide +kernel : pins 170 49 = some (23, 52, 13, 60, [])) (by decide)
      have ex := u_ret37 h (by decide +kernel : pins 170 52 = some (37, 53, 0, 0, []))
      subst ex
      have hk60 : ¬ (60 : Nat) = k := by omega
      have hk61 : ¬ (61 : Nat) = k := by omega
      have hk59 : ¬ (59 : Nat) = k := by omega
      have hk57 : ¬ (57 : Nat) = k := by omega
      have hk58 : ¬ (58 : Nat) = k := by omega
      have V10 : ∀ j q, ¬ j = 59 → ¬ j = 60 → vw t A s7 j q = vw t A σ j q := by
        intro j q h1 h2
        rcases f7 with ⟨_, f⟩ | ⟨_, _, _, _, _, _, f⟩
        · rw [f, up_ne h2]
        · rw [f, up_ne h1]
      have g10 : ¬ gI (vw t A s7) 60 0 = 0 → ¬ gI (vw t A σ) 60 0 = 0 := by
        intro hg q
        apply hg
        rcases f7 with ⟨_, f⟩ | ⟨_, _, _, _, _, _, f⟩
        · rw [f, gI_sc (by decide)]
        · rw [f, gI_ne (by decide)]; exact q
      refine ⟨rfl, ((S7.tr S15).tr S49), fun j q h1 h2 h3 h4 => ?_, fun q hq => ?_, fun hg => absurd ?_ hg, ?_⟩
      · show vw t A s49 j q = _
        rw [u49, up_ne h3, u15, up_ne h1, V10 j q h2 h3]
      · show vw t A s49 k q = _
        rw [u49, up_ne (by omega), u15, up_ni hk (by show ¬ q = i.toInt.toNat; have hq : q < i.toInt.toNat ∨ i.toInt.toNat + 16 ≤ q := hq; omega), V10 k q (by omega) (by omega)]
      · show gI (vw t A s49) 60 0 = 0
        rw [u49, gI_sc (by decide), e48]; rfl
      · show JV (vw t A s49)
        intro p hp
        rw [show gI (vw t A s49) 61 p = gI (vw t A σ) 61 p by rw [u49, gI_ne (by decide), u15, gI_ne hk61]; unfold gI; rw [V10 61 p (by decide) (by decide)]]
        have e57 : ∀ q, gI (vw t A s49) 57 q = gI (vw t A σ) 57 q := by intro q; rw [u49, gI_ne (by decide), u15, gI_ne hk57]; unfold gI; rw [V10 57 q (by decide) (by decide)]
        intro hm
        obtain ⟨a1, a2, a3, a4⟩ := J p hp hm
        rw [e57 p]
        exact ⟨a1, a2, a3, fun d d1 d2 => by rw [e57]; exact a4 d d1 d2⟩
    · obtain ⟨n57, l57, h⟩ := v_al h (by decide +kernel : pins 170 37 = some (5, 38, 0, 0, [])) (v := t) rfl
      obtain ⟨n58, l58, h⟩ := w_row (k := 61) S15.1 h (by decide +kernel : pins 170 38 = some (22, 41, 13, 61, [])) (by decide)
      obtain ⟨n59, l59, h⟩ := v_il h (by decide +kernel : pins 170 41 = some (3, 43, 5, 0, [])) (v := w28) rfl
      obtain ⟨n60, w43, l60, b43, e43, h⟩ := w_bald S15.1 h (by decide +kernel : pins 170 43 = some (25, 44, 0, 0, [])) (by decide)
      obtain ⟨n61, l61, ⟨c44, h⟩ | ⟨c44, h⟩⟩ := u_if1 h (by decide +kernel : pins 170 44 = some (16, 47, 1, ((53 : Nat) : Int), []))
      · obtain ⟨n62, w53, l62, ⟨e53, i53⟩, h⟩ := u_ic h (by decide +kernel : pins 170 53 = some (0, 54, 0, 0, [])) (by decide)
        obtain ⟨n63, l63, h⟩ := v_is h (by decide +kernel : pins 170 54 = some (6, 56, 6, 0, []))
        have h : prun n63 170 56 [(6, .int w53), (5, .int w28), (4, .int w7), (3, .int w1), (0, .ref t), (1, .ref (A k)), (2, .int i)] [] s15 = some x := h
        have h := prun_lv h (lv' := [(6, .int w53), (5, .int w28), (4, .int w7), (3, .int w1), (0, .ref t), (1, .ref (A k)), (2, .int i)]) (lvLe.cons (lvLe.cons (lvLe.cons (lvLe.cons (lvLe.cons (lvLe.cons (lvLe.cons lvLe.nil rfl) rfl) rfl) rfl) rfl) rfl) rfl) (by decide : ([6, 5, 4, 3, 0, 1, 2] : List Nat).Nodup) (by decide : ([6, 5, 4, 3, 0, 1, 2] : List Nat).Nodup)
        have hk60 : ¬ (60 : Nat) = k := by omega
        have hk61 : ¬ (61 : Nat) = k := by omega
        have hk59 : ¬ (59 : Nat) = k := by omega
        have hk57 : ¬ (57 : Nat) = k := by omega
        have hk58 : ¬ (58 : Nat) = k := by omega
        have V10 : ∀ j q, ¬ j = 59 → ¬ j = 60 → vw t A s7 j q = vw t A σ j q := by
          intro j q h1 h2
          rcases f7 with ⟨_, f⟩ | ⟨_, _, _, _, _, _, f⟩
          · rw [f, up_ne h2]
          · rw [f, up_ne h1]
        have g10 : ¬ gI (vw t A s7) 60 0 = 0 → ¬ gI (vw t A σ) 60 0 = 0 := by
          intro hg q
          apply hg
          rcases f7 with ⟨_, f⟩ | ⟨_, _, _, _, _, _, f⟩
          · rw [f, gI_sc (by decide)]
          · rw [f, gI_ne (by decide)]; exact q
        have b43' : 0 ≤ w28.toInt ∧ w28.toInt < 200 := b43
        have hm : ¬ gI (vw t A σ) 61 w28.toNatClampNeg = 0 := by
          intro q
          apply c44
          rw [e43, u15, gI_ne hk61]
          unfold gI at q ⊢
          rw [V10 61 _ (by decide) (by decide), q]
          rfl
        have wl : w28.toNatClampNeg < 200 := by show w28.toInt.toNat < 200; omega
        have wi : (w28.toNatClampNeg : Int) = w28.toInt := n_clamp (by omega)
        obtain ⟨a1, a2, a3, a4⟩ := J _ wl hm
        have e57 : ∀ q, gI (vw t A s15) 57 q = gI (vw t A σ) 57 q := by intro q; rw [u15, gI_ne hk57]; unfold gI; rw [V10 57 q (by decide) (by decide)]
        obtain ⟨r1, r2, r3, r4, r5⟩ := tw_A (t := t) (A := A) (pp := gI (vw t A σ) 57 w28.toNatClampNeg) hk2 hi b43' ⟨a1, a2⟩ _ _ _ x S15.1 ⟨by omega, by omega, e57 _, fun d hd => by omega⟩ h
        have r50 : gI (vw t A x.2) k i.toNatClampNeg = gI (vw t A σ) 57 w28.toNatClampNeg := by have := r5 0 (by omega); rw [Nat.add_zero, Nat.add_zero, e57] at this; exact this
        refine ⟨r1, (S7.tr S15).tr r2, fun j q h1 h2 h3 h4 => ?_, fun q hq => ?_, fun hg => ⟨?_, ?_⟩, ?_⟩
        · rw [r3 j q h1, u15, up_ne h1, V10 j q h2 h3]
        · rw [r4 q hq, u15, up_ni hk (by show ¬ q = i.toInt.toNat; have hq : q < i.toInt.toNat ∨ i.toInt.toNat + 16 ≤ q := hq; omega), V10 k q (by omega) (by omega)]
        · apply g10
          intro q
          apply hg
          unfold gI at q ⊢
          rw [r3 60 0 hk60, u15, up_ne hk60]
          exact q
        · refine ⟨by rw [r50]; exact a2, fun d d1 d2 => ?_⟩
          rw [r50] at d2
          rw [r5 d d2, e57]
          exact a4 d d1 d2
        · intro p hp
          rw [show gI (vw t A x.2) 61 p = gI (vw t A σ) 61 p by unfold gI; rw [r3 61 p hk61, u15, up_ne hk61, V10 61 p (by decide) (by decide)]]
          have e57' : ∀ q, gI (vw t A x.2) 57 q = gI (vw t A σ) 57 q := by intro q; rw [← e57]; unfold gI; rw [r3 57 q hk57]
          intro hm
          obtain ⟨a1, a2, a3, a4⟩ := J p hp hm
          rw [e57' p]
          exact ⟨a1, a2, a3, fun d d1 d2 => by rw [e57']; exact a4 d d1 d2⟩
      · obtain ⟨n64, l64, h⟩ := v_al h (by decide +kernel : pins 170 47 = some (5, 48, 0, 0, [])) (v := t) rfl
        obtain ⟨n65, w48, l65, ⟨e48, i48⟩, h⟩ := u_ic h (by decide +kernel : pins 170 48 = some (0, 49, 0, 0, [])) (by decide)
        obtain ⟨n66, s49, l66, S49, u49, h⟩ := w_put (k := 60) S15.1 h (by decide +kernel : pins 170 49 = some (23, 52, 13, 60, [])) (by decide)
        have ex := u_ret37 h (by decide +kernel : pins 170 52 = some (37, 53, 0, 0, []))
        subst ex
        have hk60 : ¬ (60 : Nat) = k := by omega
        have hk61 : ¬ (61 : Nat) = k := by omega
        have hk59 : ¬ (59 : Nat) = k := by omega
        have hk57 : ¬ (57 : Nat) = k := by omega
        have hk58 : ¬ (58 : Nat) = k := by omega
        have V10 : ∀ j q, ¬ j = 59 → ¬ j = 60 → vw t A s7 j q = vw t A σ j q := by
          intro j q h1 h2
          rcases f7 with ⟨_, f⟩ | ⟨_, _, _, _, _, _, f⟩
          · rw [f, up_ne h2]
          · rw [f, up_ne h1]
        have g10 : ¬ gI (vw t A s7) 60 0 = 0 → ¬ gI (vw t A σ) 60 0 = 0 := by
          intro hg q
          apply hg
          rcases f7 with ⟨_, f⟩ | ⟨_, _, _, _, _, _, f⟩
          · rw [f, gI_sc (by decide)]
          · rw [f, gI_ne (by decide)]; exact q
        refine ⟨rfl, ((S7.tr S15).tr S49), fun j q h1 h2 h3 h4 => ?_, fun q hq => ?_, fun hg => absurd ?_ hg, ?_⟩
        · show vw t A s49 j q = _
          rw [u49, up_ne h3, u15, up_ne h1, V10 j q h2 h3]
        · show vw t A s49 k q = _
          rw [u49, up_ne (by omega), u15, up_ni hk (by show ¬ q = i.toInt.toNat; have hq : q < i.toInt.toNat ∨ i.toInt.toNat + 16 ≤ q := hq; omega), V10 k q (by omega) (by omega)]
        · show gI (vw t A s49) 60 0 = 0
          rw [u49, gI_sc (by decide), e48]; rfl
        · show JV (vw t A s49)
          intro p hp
          rw [show gI (vw t A s49) 61 p = gI (vw t A σ) 61 p by rw [u49, gI_ne (by decide), u15, gI_ne hk61]; unfold gI; rw [V10 61 p (by decide) (by decide)]]
          have e57 : ∀ q, gI (vw t A s49) 57 q = gI (vw t A σ) 57 q := by intro q; rw [u49, gI_ne (by decide), u15, gI_ne hk57]; unfold gI; rw [V10 57 q (by decide) (by decide)]
          intro hm
          obtain ⟨a1, a2, a3, a4⟩ := J p hp hm
          rw [e57 p]
          exact ⟨a1, a2, a3, fun d d1 d2 => by rw [e57]; exact a4 d d1 d2⟩
