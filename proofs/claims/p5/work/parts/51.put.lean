theorem prun_det {n m mi pc : Nat} {lv : LV} {st : List Value} {σ : ps} {x y : Option Value × ps} (h1 : prun n mi pc lv st σ = some x) (h2 : prun m mi pc lv st σ = some y) : x = y := by
  have a := prun_le h1 (Nat.le_max_left n m)
  rw [prun_le h2 (Nat.le_max_right n m)] at a
  exact (Option.some.inj a).symm
/-- what is known of a run that ends, of any run that ends -/
theorem wp_pc {m mi pc : Nat} {lv : LV} {st : List Value} {σ σ1 : ps} {r : Option Value} {P : Option Value → ps → Prop} (h : wp mi pc lv st σ P) (h2 : prun m mi pc lv st σ = some (r, σ1)) : P r σ1 := by
  obtain ⟨n, r', σ', h3, h4⟩ := h
  cases prun_det h2 h3
  exact h4
/-- put writes at outSize and beyond only -/
theorem put_loop {t o : Nat} (hto : ¬ o = t) : ∀ (n : Nat) (k v b s : Int32) (σ : ps) (x : Option Value × ps), prun n 145 4 [(3, .int k), (0, .ref t), (1, .int v), (2, .int b)] [] σ = some x → sV σ t 52 = .ref o → sV σ t 53 = .int s → (rk (sK σ o)).2 ≤ 260 →
    x.1 = none ∧ sL x.2 = sL σ ∧ sK x.2 = sK σ ∧ x.2.1 = σ.1 ∧ x.2.2.1 = σ.2.1 ∧ (∀ (a j : Nat), ¬ (a = t ∧ j = 53) → ¬ (a = o ∧ s.toInt ≤ (j : Int)) → sV x.2 a j = sV σ a j) ∧ ∃ s' : Int32, sV x.2 t 53 = .int s' ∧ s.toInt ≤ s'.toInt := by
  intro n
  induction n using Nat.strongRecOn with
  | ind n ih =>
    intro k v b s σ x h h52 h53 hrk
    obtain ⟨n1, l1, h⟩ := v_il h (by decide +kernel : pins 145 4 = some (3, 5, 3, 0, [])) (v := k) rfl
    obtain ⟨n2, l2, h⟩ := v_if h (by decide +kernel : pins 145 5 = some (16, 8, 2, 43, []))
    rcases h with ⟨_, h⟩ | ⟨_, h⟩
    · have e := pinv_ret (r := none) h (by decide +kernel : pins 145 43 = some (37, 44, 0, 0, [])) (fun e => absurd (show (37 : Nat) = 36 from e) (by decide)) rfl
      subst e
      exact ⟨rfl, rfl, rfl, rfl, rfl, fun a j _ _ => rfl, s, h53, Int.le_refl _⟩
    · obtain ⟨n3, l3, h⟩ := v_al h (by decide +kernel : pins 145 8 = some (5, 9, 0, 0, [])) (v := t) rfl
      obtain ⟨n4, l4, _, h⟩ := v_get h (by decide +kernel : pins 145 9 = some (22, 12, 13, 52, []))
      rw [show sV σ t (52 : Int).toNat = .ref o from h52] at h
      obtain ⟨n5, l5, h⟩ := v_al h (by decide +kernel : pins 145 12 = some (5, 13, 0, 0, [])) (v := t) rfl
      obtain ⟨n6, l6, _, h⟩ := v_get h (by decide +kernel : pins 145 13 = some (22, 16, 13, 53, []))
      rw [show sV σ t (53 : Int).toNat = .int s from h53] at h
      obtain ⟨n7, l7, h⟩ := v_il h (by decide +kernel : pins 145 16 = some (3, 17, 1, 0, [])) (v := v) rfl
      obtain ⟨n8, l8, h⟩ := v_ic h (by decide +kernel : pins 145 17 = some (0, 19, 8, 0, []))
      obtain ⟨n9, l9, h⟩ := v_il h (by decide +kernel : pins 145 19 = some (3, 20, 3, 0, [])) (v := k) rfl
      obtain ⟨n10, w1, l10, _, h⟩ := v_iop h (by decide +kernel : pins 145 20 = some (10, 21, 2, 0, []))
      obtain ⟨n11, w2, l11, _, h⟩ := v_iop h (by decide +kernel : pins 145 21 = some (10, 22, 9, 0, []))
      obtain ⟨n12, l12, h⟩ := v_ic h (by decide +kernel : pins 145 22 = some (0, 25, 255, 0, []))
      obtain ⟨n13, w3, l13, _, h⟩ := v_iop h (by decide +kernel : pins 145 25 = some (10, 26, 5, 0, []))
      obtain ⟨n14, l14, hp, h⟩ := v_iast h (by decide +kernel : pins 145 26 = some (28, 27, 0, 0, []))
      obtain ⟨n15, l15, h⟩ := v_al h (by decide +kernel : pins 145 27 = some (5, 28, 0, 0, [])) (v := t) rfl
      obtain ⟨n16, l16, h⟩ := v_dup h (by decide +kernel : pins 145 28 = some (34, 29, 0, 0, []))
      obtain ⟨n17, l17, _, h⟩ := v_get h (by decide +kernel : pins 145 29 = some (22, 32, 13, 53, []))
      have ev : sV (sPut σ o s.toNatClampNeg (.int w3)) t (53 : Int).toNat = .int s := by
        rw [sPut_ne _ _ (fun e => hto e.symm)]; exact h53
      rw [ev] at h
      obtain ⟨n18, l18, h⟩ := v_ic h (by decide +kernel : pins 145 32 = some (0, 33, 1, 0, []))
      obtain ⟨n19, w4, l19, hw4, h⟩ := v_iop h (by decide +kernel : pins 145 33 = some (10, 34, 0, 0, []))
      obtain ⟨n20, l20, h⟩ := v_put h (by decide +kernel : pins 145 34 = some (23, 37, 13, 53, []))
      obtain ⟨n21, l21, h⟩ := v_inc h (by decide +kernel : pins 145 37 = some (9, 40, 3, -1, [])) (v := k) rfl
      obtain ⟨n22, l22, h⟩ := v_go h (by decide +kernel : pins 145 40 = some (20, 43, 0, 4, []))
      -- the index
      have hs0 : 0 ≤ s.toInt ∧ s.toInt < 260 := by
        unfold pin at hp
        obtain ⟨p1, p2⟩ := kN hp
        rw [Bool.not_eq_true', decide_eq_false_iff_not] at p1
        rw [decide_eq_true_eq] at p2
        have p2 : s.toInt.toNat < (rk (sK σ o)).2 := p2
        have p3 : ¬ s.toInt < (0 : Int32).toInt := fun q => p1 (Int32.lt_iff_toInt_lt.mpr q)
        have p3 : ¬ s.toInt < 0 := p3
        omega
      have e4 : w4 = s + 1 := (Option.some.inj hw4).symm
      have e5 : w4.toInt = s.toInt + 1 := by
        rw [e4, n_add (by rw [show (1 : Int32).toInt = 1 from rfl]; omega) (by rw [show (1 : Int32).toInt = 1 from rfl]; omega)]
        rfl
      have i1 : sV (sPut (sPut σ o s.toNatClampNeg (.int w3)) t (53 : Int).toNat (.int w4)) t 52 = .ref o := by
        rw [sPut_self]
        simp only
        rw [if_neg (by decide), sPut_ne _ _ (fun e => hto e.symm)]
        exact h52
      have i2 : sV (sPut (sPut σ o s.toNatClampNeg (.int w3)) t (53 : Int).toNat (.int w4)) t 53 = .int w4 := by
        rw [sPut_self]
        simp only
        rw [if_pos (by decide)]
      obtain ⟨r1, r2, r3, r3a, r3b, r4, s', r5, r6⟩ := ih n22 (by omega) _ v b w4 _ x h i1 i2 hrk
      refine ⟨r1, r2, r3, r3a, r3b, fun a j ha hb => ?_, s', r5, by omega⟩
      rw [r4 a j ha (fun q => hb ⟨q.1, by have := q.2; omega⟩)]
      by_cases e : a = t
      · subst e
        rw [sPut_self]
        simp only
        rw [if_neg (show ¬ j = (53 : Int).toNat from fun q => ha ⟨rfl, q⟩), sPut_ne _ _ (fun e => hto e.symm)]
      · rw [sPut_ne _ _ e]
        by_cases e' : a = o
        · subst e'
          rw [sPut_self]
          simp only
          rw [if_neg (fun q => hb ⟨rfl, by rw [q]; show s.toInt ≤ ((s.toInt.toNat : Nat) : Int); omega⟩)]
        · rw [sPut_ne _ _ e']
/-- put, whole -/
theorem put_keeps {t o n : Nat} (hto : ¬ o = t) {v b s : Int32} {σ : ps} {x : Option Value × ps} (h : prun n 145 0 (lv_args 0 [.ref t, .int v, .int b]) [] σ = some x) (h52 : sV σ t 52 = .ref o) (h53 : sV σ t 53 = .int s) (hrk : (rk (sK σ o)).2 ≤ 260) :
    x.1 = none ∧ sL x.2 = sL σ ∧ sK x.2 = sK σ ∧ x.2.1 = σ.1 ∧ x.2.2.1 = σ.2.1 ∧ (∀ (a j : Nat), ¬ (a = t ∧ j = 53) → ¬ (a = o ∧ s.toInt ≤ (j : Int)) → sV x.2 a j = sV σ a j) ∧ ∃ s' : Int32, sV x.2 t 53 = .int s' ∧ s.toInt ≤ s'.toInt := by
  obtain ⟨n1, _, h⟩ := v_il h (by decide +kernel : pins 145 0 = some (3, 1, 2, 0, [])) (v := b) rfl
  obtain ⟨n2, _, h⟩ := v_ic h (by decide +kernel : pins 145 1 = some (0, 2, 1, 0, []))
  obtain ⟨n3, w, _, _, h⟩ := v_iop h (by decide +kernel : pins 145 2 = some (10, 3, 1, 0, []))
  obtain ⟨n4, _, h⟩ := v_is h (by decide +kernel : pins 145 3 = some (6, 4, 3, 0, []))
  exact put_loop hto n4 w v b s σ x h h52 h53 hrk
