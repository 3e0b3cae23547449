theorem pc_tk_e {t n : Nat} {A : Nat → Nat} {hh kd nn a fr c : Int32} {σ : ps} {x : Option Value × ps} (W : Wld t A σ) (h : prun n 172 469 [(6, .int c), (2, .int kd), (3, .int nn), (4, .int a), (5, .int fr), (0, .ref t), (1, .int hh)] [] σ = some x) (hk : ¬ kd.toInt = 5) : ∃ w : Int32, x.1 = some (.int w) ∧ x.2 = σ := by
  obtain ⟨n1, l1, h⟩ := v_il h (by decide +kernel : pins 172 469 = some (3, 471, 6, 0, [])) (v := c) rfl
  obtain ⟨n2, l2, h⟩ := v_il h (by decide +kernel : pins 172 471 = some (3, 472, 3, 0, [])) (v := nn) rfl
  obtain ⟨n3, l3, ⟨c472, h⟩ | ⟨c472, h⟩⟩ := u_ic3 h (by decide +kernel : pins 172 472 = some (17, 475, 3, ((493 : Nat) : Int), []))
  · obtain ⟨n4, w493, l4, ⟨e493, i493⟩, h⟩ := u_ic h (by decide +kernel : pins 172 493 = some (0, 494, 1, 0, [])) (by decide)
    have ex := u_ret38 h (by decide +kernel : pins 172 494 = some (38, 495, 0, 0, []))
    subst ex
    exact ⟨_, rfl, rfl⟩
  · obtain ⟨n6, l6, h⟩ := v_il h (by decide +kernel : pins 172 475 = some (3, 476, 2, 0, [])) (v := kd) rfl
    obtain ⟨n7, w476, l7, ⟨e476, i476⟩, h⟩ := u_ic h (by decide +kernel : pins 172 476 = some (0, 477, 5, 0, [])) (by decide)
    obtain ⟨n8, l8, ⟨c477, h⟩ | ⟨c477, h⟩⟩ := u_ic1 h (by decide +kernel : pins 172 477 = some (17, 480, 1, ((493 : Nat) : Int), []))
    · obtain ⟨n9, w493, l9, ⟨e493, i493⟩, h⟩ := u_ic h (by decide +kernel : pins 172 493 = some (0, 494, 1, 0, [])) (by decide)
      have ex := u_ret38 h (by decide +kernel : pins 172 494 = some (38, 495, 0, 0, []))
      subst ex
      exact ⟨_, rfl, rfl⟩
    · exfalso; omega
/-- what a host does with what it read -/
def TkE (V V' : Nat → Nat → Value) (h : Nat) (kd nn a : Int) : Prop := (∃ u : Int32, V' = up V 11 h (.int u)) ∨ (¬ gI V 60 0 = 0 ∧ (
  (kd = 1 ∧ (V' = V ∨ (FrS V V' ∧ Snd V V' 1) ∨ (a = adr V h ∧ Mov V V' h))) ∨
  (kd = 2 ∧ (V' = V ∨ (mayD V h ∧ ∃ V1, V1 = up V 15 h (.long (gL V 0 0)) ∧ FrS V1 V' ∧ Snd V1 V' 1) ∨ (a = adr V h ∧ Mov V V' h))) ∨
  (kd = 3 ∧ (V' = V ∨ (FrS V V' ∧ Snd V V' 1) ∨ V' = up (up V 17 h (.int 0)) 18 h (.long (gL V 0 0 + 1000)))) ∨
  (kd = 4 ∧ ∃ V1, QAll V V1 h (4 * h) ∧ (V' = V1 ∨ (FrS V1 V' ∧ Snd V1 V' 1) ∨ Rpl V1 V' h)) ∨
  (kd = 5 ∧ RecsN h nn.toNat 0 V V') ∨ (¬ (1 ≤ kd ∧ kd ≤ 5) ∧ V' = V)))
theorem pc_tk_d {t n : Nat} {A : Nat → Nat} {hh kd nn a fr c : Int32} {σ : ps} {x : Option Value × ps} (W : Wld t A σ) (h : prun n 172 385 [(6, .int c), (2, .int kd), (3, .int nn), (4, .int a), (5, .int fr), (0, .ref t), (1, .int hh)] [] σ = some x) (hh0 : 0 ≤ hh.toInt ∧ hh.toInt ≤ 7) (HA : 0 ≤ (gI (vw t A σ) 46 0).toInt ∧ (gI (vw t A σ) 46 0).toInt < 800) (HM : 0 ≤ (gI (vw t A σ) 47 0).toInt ∧ (gI (vw t A σ) 47 0).toInt ≤ 1000) (hR : 0 ≤ (gI (vw t A σ) 31 hh.toNatClampNeg).toInt ∧ (gI (vw t A σ) 31 hh.toNatClampNeg).toInt ≤ 4) (hw : 0 ≤ (gI (vw t A σ) 20 (16 * hh.toNatClampNeg)).toInt ∧ (gI (vw t A σ) 20 (16 * hh.toNatClampNeg)).toInt ≤ 15) (hS : (gI (vw t A σ) 16 hh.toNatClampNeg).toInt ≤ 3) (hE : 0 ≤ (gI (vw t A σ) 32 hh.toNatClampNeg).toInt ∧ (gI (vw t A σ) 32 hh.toNatClampNeg).toInt ≤ 24) (h5 : kd.toInt = 5 → ¬ gI (vw t A σ) 60 0 = 0 → nn.toInt ≤ 8 ∧ ∀ k : Nat, (k : Int) < nn.toInt → Wok (vw t A σ) 62 (16 * k)) : ∃ w : Int32, x.1 = some (.int w) ∧ SP t A σ x.2 ∧ TkE (vw t A σ) (vw t A x.2) hh.toNatClampNeg kd.toInt nn.toInt a.toInt := by
  obtain ⟨n1, l1, h⟩ := v_al h (by decide +kernel : pins 172 385 = some (5, 386, 0, 0, [])) (v := t) rfl
  obtain ⟨n2, w386, l2, e386, h⟩ := w_fi (k := 60) W h (by decide +kernel : pins 172 386 = some (22, 389, 13, 60, [])) (by decide)
  obtain ⟨n3, l3, ⟨c389, h⟩ | ⟨c389, h⟩⟩ := u_if0 h (by decide +kernel : pins 172 389 = some (16, 392, 0, ((403 : Nat) : Int), []))
  · obtain ⟨n4, l4, h⟩ := v_al h (by decide +kernel : pins 172 403 = some (5, 404, 0, 0, [])) (v := t) rfl
    obtain ⟨n5, l5, h⟩ := w_row (k := 11) W h (by decide +kernel : pins 172 404 = some (22, 407, 13, 11, [])) (by decide)
    obtain ⟨n6, l6, h⟩ := v_il h (by decide +kernel : pins 172 407 = some (3, 408, 1, 0, [])) (v := hh) rfl
    obtain ⟨n7, l7, h⟩ := v_dup2 h (by decide +kernel : pins 172 408 = some (35, 409, 0, 0, []))
    obtain ⟨n8, w409, l8, b409, e409, h⟩ := w_iald W h (by decide +kernel : pins 172 409 = some (24, 410, 0, 0, [])) (by decide)
    obtain ⟨n9, w410, l9, ⟨e410, i410⟩, h⟩ := u_ic h (by decide +kernel : pins 172 410 = some (0, 411, 1, 0, [])) (by decide)
    obtain ⟨n10, w411, l10, e411, h⟩ := u_add h (by decide +kernel : pins 172 411 = some (10, 412, 0, 0, []))
    obtain ⟨n11, s412, l11, b412, S412, u412, h⟩ := w_iast W h (by decide +kernel : pins 172 412 = some (28, 413, 0, 0, [])) (by decide)
    obtain ⟨n12, w413, l12, ⟨e413, i413⟩, h⟩ := u_ic h (by decide +kernel : pins 172 413 = some (0, 414, 0, 0, [])) (by decide)
    have ex := u_ret38 h (by decide +kernel : pins 172 414 = some (38, 415, 0, 0, []))
    subst ex
    exact ⟨_, rfl, S412, Or.inl ⟨_, u412⟩⟩
  · obtain ⟨n14, l14, h⟩ := v_al h (by decide +kernel : pins 172 392 = some (5, 393, 0, 0, [])) (v := t) rfl
    obtain ⟨n15, w393, l15, e393, h⟩ := w_fi (k := 59) W h (by decide +kernel : pins 172 393 = some (22, 396, 13, 59, [])) (by decide)
    obtain ⟨n16, l16, h⟩ := v_al h (by decide +kernel : pins 172 396 = some (5, 397, 0, 0, [])) (v := t) rfl
    obtain ⟨n17, w397, l17, e397, h⟩ := w_fi (k := 58) W h (by decide +kernel : pins 172 397 = some (22, 400, 13, 58, [])) (by decide)
    obtain ⟨n18, l18, ⟨c400, h⟩ | ⟨c400, h⟩⟩ := u_ic0 h (by decide +kernel : pins 172 400 = some (17, 403, 0, ((415 : Nat) : Int), []))
    · obtain ⟨n19, l19, h⟩ := v_il h (by decide +kernel : pins 172 415 = some (3, 416, 2, 0, [])) (v := kd) rfl
      obtain ⟨n20, w416, l20, ⟨e416, i416⟩, h⟩ := u_ic h (by decide +kernel : pins 172 416 = some (0, 417, 1, 0, [])) (by decide)
      obtain ⟨n21, l21, ⟨c417, h⟩ | ⟨c417, h⟩⟩ := u_ic1 h (by decide +kernel : pins 172 417 = some (17, 420, 1, ((429 : Nat) : Int), []))
      · obtain ⟨n22, l22, h⟩ := v_il h (by decide +kernel : pins 172 429 = some (3, 430, 2, 0, [])) (v := kd) rfl
        obtain ⟨n23, w430, l23, ⟨e430, i430⟩, h⟩ := u_ic h (by decide +kernel : pins 172 430 = some (0, 431, 2, 0, [])) (by decide)
        obtain ⟨n24, l24, ⟨c431, h⟩ | ⟨c431, h⟩⟩ := u_ic1 h (by decide +kernel : pins 172 431 = some (17, 434, 1, ((443 : Nat) : Int), []))
        · obtain ⟨n25, l25, h⟩ := v_il h (by decide +kernel : pins 172 443 = some (3, 444, 2, 0, [])) (v := kd) rfl
          obtain ⟨n26, w444, l26, ⟨e444, i444⟩, h⟩ := u_ic h (by decide +kernel : pins 172 444 = some (0, 445, 3, 0, [])) (by decide)
          obtain ⟨n27, l27, ⟨c445, h⟩ | ⟨c445, h⟩⟩ := u_ic1 h (by decide +kernel : pins 172 445 = some (17, 448, 1, ((455 : Nat) : Int), []))
          · obtain ⟨n28, l28, h⟩ := v_il h (by decide +kernel : pins 172 455 = some (3, 456, 2, 0, [])) (v := kd) rfl
            obtain ⟨n29, w456, l29, ⟨e456, i456⟩, h⟩ := u_ic h (by decide +kernel : pins 172 456 = some (0, 457, 4, 0, [])) (by decide)
            obtain ⟨n30, l30, ⟨c457, h⟩ | ⟨c457, h⟩⟩ := u_ic1 h (by decide +kernel : pins 172 457 = some (17, 460, 1, ((466 : Nat) : Int), []))
            · obtain ⟨n31, w466, l31, ⟨e466, i466⟩, h⟩ := u_ic h (by decide +kernel : pins 172 466 = some (0, 467, 0, 0, [])) (by decide)
              obtain ⟨n32, l32, h⟩ := v_is h (by decide +kernel : pins 172 467 = some (6, 469, 6, 0, []))
              have h : prun n32 172 469 [(6, .int w466), (2, .int kd), (3, .int nn), (4, .int a), (5, .int fr), (0, .ref t), (1, .int hh)] [] σ = some x := h
              have h := prun_lv h (lv' := [(6, .int w466), (2, .int kd), (3, .int nn), (4, .int a), (5, .int fr), (0, .ref t), (1, .int hh)]) (lvLe.cons (lvLe.cons (lvLe.cons (lvLe.cons (lvLe.cons (lvLe.cons (lvLe.cons lvLe.nil rfl) rfl) rfl) rfl) rfl) rfl) rfl) (by decide : ([6, 2, 3, 4, 5, 0, 1] : List Nat).Nodup) (by decide : ([6, 2, 3, 4, 5, 0, 1] : List Nat).Nodup)
              have gd : ¬ gI (vw t A σ) 60 0 = 0 := fun q => c389 (by rw [e386, q]; rfl)
              by_cases k5 : kd.toInt = 5
              · obtain ⟨n8, wk⟩ := h5 k5 gd
                obtain ⟨w, y1, y2, y3⟩ := pc_tk_r hh0 k5 n8 _ _ _ x W ⟨by rw [i466]; decide, hw, hS, hE, fun k _ hk => wk k hk⟩ h
                rw [i466, show w466.toNatClampNeg = 0 by show w466.toInt.toNat = 0; rw [i466]; rfl, Int.sub_zero] at y3
                exact ⟨w, y1, y2, Or.inr ⟨gd, Or.inr (Or.inr (Or.inr (Or.inr (Or.inl ⟨k5, y3⟩))))⟩⟩
              · obtain ⟨w, y1, y2⟩ := pc_tk_e W h k5
                refine ⟨w, y1, by rw [y2]; exact SP.rf W, Or.inr ⟨gd, Or.inr (Or.inr (Or.inr (Or.inr (Or.inr ⟨by omega, by rw [y2]⟩))))⟩⟩
            · obtain ⟨n33, l33, h⟩ := v_al h (by decide +kernel : pins 172 460 = some (5, 461, 0, 0, [])) (v := t) rfl
              obtain ⟨n34, l34, h⟩ := v_il h (by decide +kernel : pins 172 461 = some (3, 462, 1, 0, [])) (v := hh) rfl
              obtain ⟨n35, l35, h⟩ := v_il h (by decide +kernel : pins 172 462 = some (3, 463, 3, 0, [])) (v := nn) rfl
              obtain ⟨n36, r463, s463, l36, h463, h⟩ := pinv_call h (by decide +kernel : pins 172 463 = some (36, 466, 176, 0, [3]))
              have h463 : prun n36 176 0 (lv_args 0 [.ref t, .int hh, .int nn]) [] σ = some (r463, s463) := h463
              obtain ⟨er463, S463, P463⟩ := pc_ask1 W h463 hh0 HA HM hR
              have er463 : r463 = none := er463
              subst er463
              try dsimp only at S463
              try dsimp only at P463
              have h : prun n36 172 466 [(6, .int c), (2, .int kd), (3, .int nn), (4, .int a), (5, .int fr), (0, .ref t), (1, .int hh)] [] s463 = some x := h
              obtain ⟨n37, w466, l37, ⟨e466, i466⟩, h⟩ := u_ic h (by decide +kernel : pins 172 466 = some (0, 467, 0, 0, [])) (by decide)
              obtain ⟨n38, l38, h⟩ := v_is h (by decide +kernel : pins 172 467 = some (6, 469, 6, 0, []))
              have h : prun n38 172 469 [(6, .int w466), (2, .int kd), (3, .int nn), (4, .int a), (5, .int fr), (0, .ref t), (1, .int hh)] [] s463 = some x := h
              have h := prun_lv h (lv' := [(6, .int w466), (2, .int kd), (3, .int nn), (4, .int a), (5, .int fr), (0, .ref t), (1, .int hh)]) (lvLe.cons (lvLe.cons (lvLe.cons (lvLe.cons (lvLe.cons (lvLe.cons (lvLe.cons lvLe.nil rfl) rfl) rfl) rfl) rfl) rfl) rfl) (by decide : ([6, 2, 3, 4, 5, 0, 1] : List Nat).Nodup) (by decide : ([6, 2, 3, 4, 5, 0, 1] : List Nat).Nodup)
              have gd : ¬ gI (vw t A σ) 60 0 = 0 := fun q => c389 (by rw [e386, q]; rfl)
              obtain ⟨w, y1, y2⟩ := pc_tk_e S463.1 h (by omega)
              refine ⟨w, y1, by rw [y2]; exact S463, Or.inr ⟨gd, ?_⟩⟩
              rw [y2]
              exact Or.inr (Or.inr (Or.inr (Or.inl ⟨by omega, P463⟩)))
          · obtain ⟨n39, l39, h⟩ := v_al h (by decide +kernel : pins 172 448 = some (5, 449, 0, 0, [])) (v := t) rfl
            obtain ⟨n40, l40, h⟩ := v_il h (by decide +kernel : pins 172 449 = some (3, 450, 1, 0, [])) (v := hh) rfl
            obtain ⟨n41, l41, h⟩ := v_il h (by decide +kernel : pins 172 450 = some (3, 452, 4, 0, [])) (v := a) rfl
            obtain ⟨n42, r452, s452, l42, h452, h⟩ := pinv_call h (by decide +kernel : pins 172 452 = some (36, 455, 175, 0, [3]))
            have h452 : prun n42 175 0 (lv_args 0 [.ref t, .int hh, .int a]) [] σ = some (r452, s452) := h452
            obtain ⟨er452, S452, P452⟩ := pc_nprobe W h452 HA HM
            have er452 : r452 = none := er452
            subst er452
            try dsimp only at S452
            try dsimp only at P452
            have h : prun n42 172 455 [(6, .int c), (2, .int kd), (3, .int nn), (4, .int a), (5, .int fr), (0, .ref t), (1, .int hh)] [] s452 = some x := h
            obtain ⟨n43, l43, h⟩ := v_il h (by decide +kernel : pins 172 455 = some (3, 456, 2, 0, [])) (v := kd) rfl
            obtain ⟨n44, w456, l44, ⟨e456, i456⟩, h⟩ := u_ic h (by decide +kernel : pins 172 456 = some (0, 457, 4, 0, [])) (by decide)
            obtain ⟨n45, l45, ⟨c457, h⟩ | ⟨c457, h⟩⟩ := u_ic1 h (by decide +kernel : pins 172 457 = some (17, 460, 1, ((466 : Nat) : Int), []))
            · obtain ⟨n46, w466, l46, ⟨e466, i466⟩, h⟩ := u_ic h (by decide +kernel : pins 172 466 = some (0, 467, 0, 0, [])) (by decide)
              obtain ⟨n47, l47, h⟩ := v_is h (by decide +kernel : pins 172 467 = some (6, 469, 6, 0, []))
              have h : prun n47 172 469 [(6, .int w466), (2, .int kd), (3, .int nn), (4, .int a), (5, .int fr), (0, .ref t), (1, .int hh)] [] s452 = some x := h
              have h := prun_lv h (lv' := [(6, .int w466), (2, .int kd), (3, .int nn), (4, .int a), (5, .int fr), (0, .ref t), (1, .int hh)]) (lvLe.cons (lvLe.cons (lvLe.cons (lvLe.cons (lvLe.cons (lvLe.cons (lvLe.cons lvLe.nil rfl) rfl) rfl) rfl) rfl) rfl) rfl) (by decide : ([6, 2, 3, 4, 5, 0, 1] : List Nat).Nodup) (by decide : ([6, 2, 3, 4, 5, 0, 1] : List Nat).Nodup)
              have gd : ¬ gI (vw t A σ) 60 0 = 0 := fun q => c389 (by rw [e386, q]; rfl)
              obtain ⟨w, y1, y2⟩ := pc_tk_e S452.1 h (by omega)
              refine ⟨w, y1, by rw [y2]; exact S452, Or.inr ⟨gd, ?_⟩⟩
              rw [y2]
              exact Or.inr (Or.inr (Or.inl ⟨by omega, P452⟩))
            · exfalso; omega
        · obtain ⟨n48, l48, h⟩ := v_al h (by decide +kernel : pins 172 434 = some (5, 435, 0, 0, [])) (v := t) rfl
          obtain ⟨n49, l49, h⟩ := v_il h (by decide +kernel : pins 172 435 = some (3, 436, 1, 0, [])) (v := hh) rfl
          obtain ⟨n50, l50, h⟩ := v_il h (by decide +kernel : pins 172 436 = some (3, 438, 4, 0, [])) (v := a) rfl
          obtain ⟨n51, l51, h⟩ := v_il h (by decide +kernel : pins 172 438 = some (3, 440, 5, 0, [])) (v := fr) rfl
          obtain ⟨n52, r440, s440, l52, h440, h⟩ := pinv_call h (by decide +kernel : pins 172 440 = some (36, 443, 174, 0, [4]))
          have h440 : prun n52 174 0 (lv_args 0 [.ref t, .int hh, .int a, .int fr]) [] σ = some (r440, s440) := h440
          obtain ⟨er440, S440, P440⟩ := pc_atell W h440 HA HM
          have er440 : r440 = none := er440
          subst er440
          try dsimp only at S440
          try dsimp only at P440
          have h : prun n52 172 443 [(6, .int c), (2, .int kd), (3, .int nn), (4, .int a), (5, .int fr), (0, .ref t), (1, .int hh)] [] s440 = some x := h
          obtain ⟨n53, l53, h⟩ := v_il h (by decide +kernel : pins 172 443 = some (3, 444, 2, 0, [])) (v := kd) rfl
          obtain ⟨n54, w444, l54, ⟨e444, i444⟩, h⟩ := u_ic h (by decide +kernel : pins 172 444 = some (0, 445, 3, 0, [])) (by decide)
          obtain ⟨n55, l55, ⟨c445, h⟩ | ⟨c445, h⟩⟩ := u_ic1 h (by decide +kernel : pins 172 445 = some (17, 448, 1, ((455 : Nat) : Int), []))
          · obtain ⟨n56, l56, h⟩ := v_il h (by decide +kernel : pins 172 455 = some (3, 456, 2, 0, [])) (v := kd) rfl
            obtain ⟨n57, w456, l57, ⟨e456, i456⟩, h⟩ := u_ic h (by decide +kernel : pins 172 456 = some (0, 457, 4, 0, [])) (by decide)
            obtain ⟨n58, l58, ⟨c457, h⟩ | ⟨c457, h⟩⟩ := u_ic1 h (by decide +kernel : pins 172 457 = some (17, 460, 1, ((466 : Nat) : Int), []))
            · obtain ⟨n59, w466, l59, ⟨e466, i466⟩, h⟩ := u_ic h (by decide +kernel : pins 172 466 = some (0, 467, 0, 0, [])) (by decide)
              obtain ⟨n60, l60, h⟩ := v_is h (by decide +kernel : pins 172 467 = some (6, 469, 6, 0, []))
              have h : prun n60 172 469 [(6, .int w466), (2, .int kd), (3, .int nn), (4, .int a), (5, .int fr), (0, .ref t), (1, .int hh)] [] s440 = some x := h
              have h := prun_lv h (lv' := [(6, .int w466), (2, .int kd), (3, .int nn), (4, .int a), (5, .int fr), (0, .ref t), (1, .int hh)]) (lvLe.cons (lvLe.cons (lvLe.cons (lvLe.cons (lvLe.cons (lvLe.cons (lvLe.cons lvLe.nil rfl) rfl) rfl) rfl) rfl) rfl) rfl) (by decide : ([6, 2, 3, 4, 5, 0, 1] : List Nat).Nodup) (by decide : ([6, 2, 3, 4, 5, 0, 1] : List Nat).Nodup)
              have gd : ¬ gI (vw t A σ) 60 0 = 0 := fun q => c389 (by rw [e386, q]; rfl)
              obtain ⟨w, y1, y2⟩ := pc_tk_e S440.1 h (by omega)
              refine ⟨w, y1, by rw [y2]; exact S440, Or.inr ⟨gd, ?_⟩⟩
              rw [y2]
              exact Or.inr (Or.inl ⟨by omega, P440⟩)
            · exfalso; omega
          · exfalso; omega
      · obtain ⟨n61, l61, h⟩ := v_al h (by decide +kernel : pins 172 420 = some (5, 421, 0, 0, [])) (v := t) rfl
        obtain ⟨n62, l62, h⟩ := v_il h (by decide +kernel : pins 172 421 = some (3, 422, 1, 0, [])) (v := hh) rfl
        obtain ⟨n63, l63, h⟩ := v_il h (by decide +kernel : pins 172 422 = some (3, 424, 4, 0, [])) (v := a) rfl
        obtain ⟨n64, l64, h⟩ := v_il h (by decide +kernel : pins 172 424 = some (3, 426, 5, 0, [])) (v := fr) rfl
        obtain ⟨n65, r426, s426, l65, h426, h⟩ := pinv_call h (by decide +kernel : pins 172 426 = some (36, 429, 173, 0, [4]))
        have h426 : prun n65 173 0 (lv_args 0 [.ref t, .int hh, .int a, .int fr]) [] σ = some (r426, s426) := h426
        obtain ⟨er426, S426, P426⟩ := pc_aprobe W h426 HA HM
        have er426 : r426 = none := er426
        subst er426
        try dsimp only at S426
        try dsimp only at P426
        have h : prun n65 172 429 [(6, .int c), (2, .int kd), (3, .int nn), (4, .int a), (5, .int fr), (0, .ref t), (1, .int hh)] [] s426 = some x := h
        obtain ⟨n66, l66, h⟩ := v_il h (by decide +kernel : pins 172 429 = some (3, 430, 2, 0, [])) (v := kd) rfl
        obtain ⟨n67, w430, l67, ⟨e430, i430⟩, h⟩ := u_ic h (by decide +kernel : pins 172 430 = some (0, 431, 2, 0, [])) (by decide)
        obtain ⟨n68, l68, ⟨c431, h⟩ | ⟨c431, h⟩⟩ := u_ic1 h (by decide +kernel : pins 172 431 = some (17, 434, 1, ((443 : Nat) : Int), []))
        · obtain ⟨n69, l69, h⟩ := v_il h (by decide +kernel : pins 172 443 = some (3, 444, 2, 0, [])) (v := kd) rfl
          obtain ⟨n70, w444, l70, ⟨e444, i444⟩, h⟩ := u_ic h (by decide +kernel : pins 172 444 = some (0, 445, 3, 0, [])) (by decide)
          obtain ⟨n71, l71, ⟨c445, h⟩ | ⟨c445, h⟩⟩ := u_ic1 h (by decide +kernel : pins 172 445 = some (17, 448, 1, ((455 : Nat) : Int), []))
          · obtain ⟨n72, l72, h⟩ := v_il h (by decide +kernel : pins 172 455 = some (3, 456, 2, 0, [])) (v := kd) rfl
            obtain ⟨n73, w456, l73, ⟨e456, i456⟩, h⟩ := u_ic h (by decide +kernel : pins 172 456 = some (0, 457, 4, 0, [])) (by decide)
            obtain ⟨n74, l74, ⟨c457, h⟩ | ⟨c457, h⟩⟩ := u_ic1 h (by decide +kernel : pins 172 457 = some (17, 460, 1, ((466 : Nat) : Int), []))
            · obtain ⟨n75, w466, l75, ⟨e466, i466⟩, h⟩ := u_ic h (by decide +kernel : pins 172 466 = some (0, 467, 0, 0, [])) (by decide)
              obtain ⟨n76, l76, h⟩ := v_is h (by decide +kernel : pins 172 467 = some (6, 469, 6, 0, []))
              have h : prun n76 172 469 [(6, .int w466), (2, .int kd), (3, .int nn), (4, .int a), (5, .int fr), (0, .ref t), (1, .int hh)] [] s426 = some x := h
              have h := prun_lv h (lv' := [(6, .int w466), (2, .int kd), (3, .int nn), (4, .int a), (5, .int fr), (0, .ref t), (1, .int hh)]) (lvLe.cons (lvLe.cons (lvLe.cons (lvLe.cons (lvLe.cons (lvLe.cons (lvLe.cons lvLe.nil rfl) rfl) rfl) rfl) rfl) rfl) rfl) (by decide : ([6, 2, 3, 4, 5, 0, 1] : List Nat).Nodup) (by decide : ([6, 2, 3, 4, 5, 0, 1] : List Nat).Nodup)
              have gd : ¬ gI (vw t A σ) 60 0 = 0 := fun q => c389 (by rw [e386, q]; rfl)
              obtain ⟨w, y1, y2⟩ := pc_tk_e S426.1 h (by omega)
              refine ⟨w, y1, by rw [y2]; exact S426, Or.inr ⟨gd, ?_⟩⟩
              rw [y2]
              exact Or.inl ⟨by omega, P426⟩
            · exfalso; omega
          · exfalso; omega
        · exfalso; omega
    · obtain ⟨n77, l77, h⟩ := v_al h (by decide +kernel : pins 172 403 = some (5, 404, 0, 0, [])) (v := t) rfl
      obtain ⟨n78, l78, h⟩ := w_row (k := 11) W h (by decide +kernel : pins 172 404 = some (22, 407, 13, 11, [])) (by decide)
      obtain ⟨n79, l79, h⟩ := v_il h (by decide +kernel : pins 172 407 = some (3, 408, 1, 0, [])) (v := hh) rfl
      obtain ⟨n80, l80, h⟩ := v_dup2 h (by decide +kernel : pins 172 408 = some (35, 409, 0, 0, []))
      obtain ⟨n81, w409, l81, b409, e409, h⟩ := w_iald W h (by decide +kernel : pins 172 409 = some (24, 410, 0, 0, [])) (by decide)
      obtain ⟨n82, w410, l82, ⟨e410, i410⟩, h⟩ := u_ic h (by decide +kernel : pins 172 410 = some (0, 411, 1, 0, [])) (by decide)
      obtain ⟨n83, w411, l83, e411, h⟩ := u_add h (by decide +kernel : pins 172 411 = some (10, 412, 0, 0, []))
      obtain ⟨n84, s412, l84, b412, S412, u412, h⟩ := w_iast W h (by decide +kernel : pins 172 412 = some (28, 413, 0, 0, [])) (by decide)
      obtain ⟨n85, w413, l85, ⟨e413, i413⟩, h⟩ := u_ic h (by decide +kernel : pins 172 413 = some (0, 414, 0, 0, [])) (by decide)
      have ex := u_ret38 h (by decide +kernel : pins 172 414 = some (38, 415, 0, 0, []))
      subst ex
      exact ⟨_, rfl, S412, Or.inl ⟨_, u412⟩⟩
theorem pc_tk_0 {t : Nat} {A : Nat → Nat} {hh : Int32} : ∀ (n : Nat) (c : Int32) (σ : ps) (x : Option Value × ps), Wld t A σ → (0 ≤ c.toInt ∧ ∀ q : Nat, (q : Int) < c.toInt → gI (vw t A σ) 61 q = 0) → prun n 172 12 [(2, .int c), (0, .ref t), (1, .int hh)] [] σ = some x → ∃ (m : Nat) (c2 : Int32) (σ' : ps), SP t A σ σ' ∧ (∀ j q : Nat, ¬ j = 61 → vw t A σ' j q = vw t A σ j q) ∧ (∀ q : Nat, q < 200 → gI (vw t A σ') 61 q = 0) ∧ prun m 172 32 [(2, .int c2), (0, .ref t), (1, .int hh)] [] σ' = some x := by
  intro n
  induction n using Nat.strongRecOn with
  | ind n ih =>
    intro c σ x W I h
    obtain ⟨I1, I2⟩ := I
    obtain ⟨n1, l1, h⟩ := v_il h (by decide +kernel : pins 172 12 = some (3, 13, 2, 0, [])) (v := c) rfl
    obtain ⟨n2, w13, l2, ⟨e13, i13⟩, h⟩ := u_ic h (by decide +kernel : pins 172 13 = some (0, 16, 200, 0, [])) (by decide)
    obtain ⟨n3, l3, ⟨c16, h⟩ | ⟨c16, h⟩⟩ := u_ic3 h (by decide +kernel : pins 172 16 = some (17, 19, 3, ((32 : Nat) : Int), []))
    · have h := prun_lv h (lv' := [(2, .int c), (0, .ref t), (1, .int hh)]) (lvLe.cons (lvLe.cons (lvLe.cons lvLe.nil rfl) rfl) rfl) (by decide : ([2, 0, 1] : List Nat).Nodup) (by decide : ([2, 0, 1] : List Nat).Nodup)
      refine ⟨_, _, σ, SP.rf W, fun _ _ _ => rfl, fun q hq => I2 q ?_, h⟩
      omega
    · obtain ⟨n4, l4, h⟩ := v_al h (by decide +kernel : pins 172 19 = some (5, 20, 0, 0, [])) (v := t) rfl
      obtain ⟨n5, l5, h⟩ := w_row (k := 61) W h (by decide +kernel : pins 172 20 = some (22, 23, 13, 61, [])) (by decide)
      obtain ⟨n6, l6, h⟩ := v_il h (by decide +kernel : pins 172 23 = some (3, 24, 2, 0, [])) (v := c) rfl
      obtain ⟨n7, w24, l7, ⟨e24, i24⟩, h⟩ := u_ic h (by decide +kernel : pins 172 24 = some (0, 25, 0, 0, [])) (by decide)
      obtain ⟨n8, s25, l8, b25, S25, u25, h⟩ := w_bast W h (by decide +kernel : pins 172 25 = some (29, 26, 0, 0, [])) (by decide) (by decide)
      obtain ⟨n9, w26, l9, e26, h⟩ := u_inc h (by decide +kernel : pins 172 26 = some (9, 29, 2, 1, [])) (v := c) rfl
      have h : prun n9 172 29 [(2, .int w26), (0, .ref t), (1, .int hh)] [] s25 = some x := h
      obtain ⟨n10, l10, h⟩ := u_go h (by decide +kernel : pins 172 29 = some (20, 32, 0, ((12 : Nat) : Int), []))
      have h := prun_lv h (lv' := [(2, .int w26), (0, .ref t), (1, .int hh)]) (lvLe.cons (lvLe.cons (lvLe.cons lvLe.nil rfl) rfl) rfl) (by decide : ([2, 0, 1] : List Nat).Nodup) (by decide : ([2, 0, 1] : List Nat).Nodup)
      have cn : (c.toNatClampNeg : Int) = c.toInt := n_clamp I1
      have q26 : w26.toInt = c.toInt + 1 := addc e26 (by decide : (Int32.ofInt 1).toInt = 1) (by omega) (by omega) (by decide) (by decide)
      have I' : ∀ q : Nat, (q : Int) < w26.toInt → gI (vw t A s25) 61 q = 0 := by
        intro q hq
        rw [u25]
        by_cases e : q = c.toNatClampNeg
        · rw [e, gI_eq, e24]; decide
        · rw [gI_ni (by decide) e]; exact I2 q (by omega)
      obtain ⟨m, c2, σ2, y1, y2, y4, y3⟩ := ih n10 (by omega) _ _ x S25.1 ⟨by omega, I'⟩ h
      exact ⟨m, c2, σ2, S25.tr y1, fun j q hj => (y2 j q hj).trans (by rw [u25, up_ne hj]), y4, y3⟩
set_option maxHeartbeats 4000000 in
theorem pc_tk_32 {t n : Nat} {A : Nat → Nat} {hh c : Int32} {σ : ps} {x : Option Value × ps} (W : Wld t A σ) (h : prun n 172 32 [(2, .int c), (0, .ref t), (1, .int hh)] [] σ = some x) (hh0 : 0 ≤ hh.toInt ∧ hh.toInt ≤ 7) (HA : 0 ≤ (gI (vw t A σ) 46 0).toInt ∧ (gI (vw t A σ) 46 0).toInt < 800) (HM : 0 ≤ (gI (vw t A σ) 47 0).toInt ∧ (gI (vw t A σ) 47 0).toInt ≤ 1000) (hR : 0 ≤ (gI (vw t A σ) 31 hh.toNatClampNeg).toInt ∧ (gI (vw t A σ) 31 hh.toNatClampNeg).toInt ≤ 4) (hw : 0 ≤ (gI (vw t A σ) 20 (16 * hh.toNatClampNeg)).toInt ∧ (gI (vw t A σ) 20 (16 * hh.toNatClampNeg)).toInt ≤ 15) (hS : (gI (vw t A σ) 16 hh.toNatClampNeg).toInt ≤ 3) (hE : 0 ≤ (gI (vw t A σ) 32 hh.toNatClampNeg).toInt ∧ (gI (vw t A σ) 32 hh.toNatClampNeg).toInt ≤ 24) (hB : PB (vw t A σ)) (J : JV (vw t A σ)) (h59 : (gI (vw t A σ) 59 0).toInt = 0) : ∃ w : Int32, x.1 = some (.int w) ∧ SP t A σ x.2 ∧ ∃ (Vp : Nat → Nat → Value) (kd nn a : Int), (∀ j q : Nat, ¬ (59 ≤ j ∧ j ≤ 67) → Vp j q = vw t A σ j q) ∧ TkE Vp (vw t A x.2) hh.toNatClampNeg kd nn a ∧ 0 ≤ a ∧ (¬ gI Vp 60 0 = 0 → kd = (gI (vw t A σ) 57 0).toInt ∧ 1 ≤ (gI (vw t A σ) 58 0).toInt ∧ (kd = 5 → nn = (gI (vw t A σ) 57 1).toInt ∧ nn ≤ 8 ∧ (1 ≤ nn → LF Vp))) := by
  obtain ⟨n1, l1, h⟩ := v_al h (by decide +kernel : pins 172 32 = some (5, 33, 0, 0, [])) (v := t) rfl
  obtain ⟨n2, w33, l2, ⟨e33, i33⟩, h⟩ := u_ic h (by decide +kernel : pins 172 33 = some (0, 34, 1, 0, [])) (by decide)
  obtain ⟨n3, r34, s34, l3, h34, h⟩ := pinv_call h (by decide +kernel : pins 172 34 = some (36, 37, 168, 0, [2]))
  have h34 : prun n3 168 0 (lv_args 0 [.ref t, .int w33]) [] σ = some (r34, s34) := h34
  obtain ⟨w34, er34, S34, f34⟩ := take_1 W h34 e33
  have er34 : r34 = some (.int w34) := er34
  subst er34
  try dsimp only at S34
  try dsimp only at f34
  obtain ⟨ps34, kg34⟩ : PS (vw t A σ) (vw t A s34) ∧ KG (vw t A σ) (vw t A s34) := take_ps (P := True) (f34.imp_right (fun q => ⟨trivial, q.2.2.2.2.imp (fun _ z => z.2)⟩))
  have h : prun n3 172 37 [(2, .int c), (0, .ref t), (1, .int hh)] [.int w34] s34 = some x := h
  obtain ⟨n4, l4, h⟩ := v_is h (by decide +kernel : pins 172 37 = some (6, 38, 2, 0, []))
  have h : prun n4 172 38 [(2, .int w34), (0, .ref t), (1, .int hh)] [] s34 = some x := h
  obtain ⟨n5, w38, l5, ⟨e38, i38⟩, h⟩ := u_ic h (by decide +kernel : pins 172 38 = some (0, 39, 0, 0, [])) (by decide)
  obtain ⟨n6, l6, h⟩ := v_is h (by decide +kernel : pins 172 39 = some (6, 40, 3, 0, []))
  have h : prun n6 172 40 [(3, .int w38), (2, .int w34), (0, .ref t), (1, .int hh)] [] s34 = some x := h
  obtain ⟨n7, w40, l7, ⟨e40, i40⟩, h⟩ := u_ic h (by decide +kernel : pins 172 40 = some (0, 41, 0, 0, [])) (by decide)
  obtain ⟨n8, l8, h⟩ := v_is h (by decide +kernel : pins 172 41 = some (6, 43, 4, 0, []))
  have h : prun n8 172 43 [(4, .int w40), (3, .int w38), (2, .int w34), (0, .ref t), (1, .int hh)] [] s34 = some x := h
  obtain ⟨n9, w43, l9, ⟨e43, i43⟩, h⟩ := u_ic h (by decide +kernel : pins 172 43 = some (0, 44, 0, 0, [])) (by decide)
  obtain ⟨n10, l10, h⟩ := v_is h (by decide +kernel : pins 172 44 = some (6, 46, 5, 0, []))
  have h : prun n10 172 46 [(5, .int w43), (4, .int w40), (3, .int w38), (2, .int w34), (0, .ref t), (1, .int hh)] [] s34 = some x := h
  obtain ⟨n11, l11, h⟩ := v_il h (by decide +kernel : pins 172 46 = some (3, 47, 2, 0, [])) (v := w34) rfl
  obtain ⟨n12, w47, l12, ⟨e47, i47⟩, h⟩ := u_ic h (by decide +kernel : pins 172 47 = some (0, 48, 1, 0, [])) (by decide)
  obtain ⟨n13, l13, ⟨c48, h⟩ | ⟨c48, h⟩⟩ := u_ic0 h (by decide +kernel : pins 172 48 = some (17, 51, 0, ((61 : Nat) : Int), []))
  · obtain ⟨n14, l14, h⟩ := v_il h (by decide +kernel : pins 172 61 = some (3, 62, 2, 0, [])) (v := w34) rfl
    obtain ⟨n15, w62, l15, ⟨e62, i62⟩, h⟩ := u_ic h (by decide +kernel : pins 172 62 = some (0, 63, 3, 0, [])) (by decide)
    obtain ⟨n16, l16, ⟨c63, h⟩ | ⟨c63, h⟩⟩ := u_ic1 h (by decide +kernel : pins 172 63 = some (17, 66, 1, ((75 : Nat) : Int), []))
    · obtain ⟨n17, l17, h⟩ := v_al h (by decide +kernel : pins 172 75 = some (5, 76, 0, 0, [])) (v := t) rfl
      obtain ⟨n18, r76, s76, l18, h76, h⟩ := pinv_call h (by decide +kernel : pins 172 76 = some (36, 79, 169, 0, [1]))
      have h76 : prun n18 169 0 (lv_args 0 [.ref t]) [] s34 = some (r76, s76) := h76
      have PC76 : PS (vw t A σ) (vw t A s34) := ps34
      obtain ⟨w76, er76, S76, ps76, kg76, nn76⟩ := pc_takeAddress S34.1 h76 (hB.of PC76)
      have er76 : r76 = some (.int w76) := er76
      subst er76
      try dsimp only at S76
      try dsimp only at ps76
      try dsimp only at kg76
      try dsimp only at nn76
      have h : prun n18 172 79 [(5, .int w43), (4, .int w40), (3, .int w38), (2, .int w34), (0, .ref t), (1, .int hh)] [.int w76] s76 = some x := h
      obtain ⟨n19, l19, h⟩ := v_is h (by decide +kernel : pins 172 79 = some (6, 81, 4, 0, []))
      have h : prun n19 172 81 [(4, .int w76), (5, .int w43), (3, .int w38), (2, .int w34), (0, .ref t), (1, .int hh)] [] s76 = some x := h
      obtain ⟨n20, l20, h⟩ := v_al h (by decide +kernel : pins 172 81 = some (5, 82, 0, 0, [])) (v := t) rfl
      obtain ⟨n21, w82, l21, ⟨e82, i82⟩, h⟩ := u_ic h (by decide +kernel : pins 172 82 = some (0, 83, 2, 0, [])) (by decide)
      obtain ⟨n22, r83, s83, l22, h83, h⟩ := pinv_call h (by decide +kernel : pins 172 83 = some (36, 86, 168, 0, [2]))
      have h83 : prun n22 168 0 (lv_args 0 [.ref t, .int w82]) [] s76 = some (r83, s83) := h83
      obtain ⟨w83, er83, S83, f83⟩ := take_2 S76.1 h83 e82
      have er83 : r83 = some (.int w83) := er83
      subst er83
      try dsimp only at S83
      try dsimp only at f83
      obtain ⟨ps83, kg83⟩ : PS (vw t A s76) (vw t A s83) ∧ KG (vw t A s76) (vw t A s83) := take_ps (P := True) (f83.imp_right (fun q => ⟨trivial, q.2.2.2.2.imp (fun _ z => z.2)⟩))
      have h : prun n22 172 86 [(4, .int w76), (5, .int w43), (3, .int w38), (2, .int w34), (0, .ref t), (1, .int hh)] [.int w83] s83 = some x := h
      obtain ⟨n23, l23, h⟩ := v_is h (by decide +kernel : pins 172 86 = some (6, 88, 5, 0, []))
      have h : prun n23 172 88 [(5, .int w83), (4, .int w76), (3, .int w38), (2, .int w34), (0, .ref t), (1, .int hh)] [] s83 = some x := h
      obtain ⟨n24, l24, h⟩ := u_go h (by decide +kernel : pins 172 88 = some (20, 91, 0, ((385 : Nat) : Int), []))
      have h := prun_lv h (lv' := [(6, .int 0), (2, .int w34), (3, .int w38), (4, .int w76), (5, .int w83), (0, .ref t), (1, .int hh)]) (lvLe.cons (lvLe.cons (lvLe.cons (lvLe.cons (lvLe.cons (lvLe.cons lvLe.nil rfl) rfl) rfl) rfl) rfl) rfl) (by decide : ([5, 4, 3, 2, 0, 1] : List Nat).Nodup) (by decide : ([6, 2, 3, 4, 5, 0, 1] : List Nat).Nodup)
      have PT : PS (vw t A s34) (vw t A s83) := (ps76.tr ps83)
      have PE : PS (vw t A σ) (vw t A s83) := ((ps34.tr ps76).tr ps83)
      have F : ∀ j q : Nat, ¬ (59 ≤ j ∧ j ≤ 67) → vw t A s83 j q = vw t A σ j q := PE.1
      have FI : ∀ j q : Nat, ¬ (59 ≤ j ∧ j ≤ 67) → gI (vw t A s83) j q = gI (vw t A σ) j q := fun j q hj => by unfold gI; rw [F j q hj]
      obtain ⟨w, y1, y2, y3⟩ := pc_tk_d S83.1 h hh0 (by rw [FI 46 0 (by decide)]; exact HA) (by rw [FI 47 0 (by decide)]; exact HM) (by rw [FI 31 _ (by decide)]; exact hR) (by rw [FI 20 _ (by decide)]; exact hw) (by rw [FI 16 _ (by decide)]; exact hS) (by rw [FI 32 _ (by decide)]; exact hE) (fun k5 => by exfalso; omega)
      refine ⟨w, y1, ((S34.tr S76).tr S83).tr y2, vw t A s83, _, _, _, F, y3, nn76, fun g => ?_⟩
      have g34 := (PT.2.1 g)
      rcases f34 with ⟨_, f⟩ | ⟨_, _, a3, a4, aa, a5, f⟩
      · exact absurd (by rw [f, gI_sc (by decide)]) g34
      have kd0 : w34 = gI (vw t A σ) 57 0 := by rw [a4]; congr 1; show (gI (vw t A σ) 59 0).toInt.toNat = 0; rw [h59]; rfl
      exact ⟨by rw [kd0], by omega, fun k5 => by exfalso; omega⟩
    · obtain ⟨n25, l25, h⟩ := v_al h (by decide +kernel : pins 172 66 = some (5, 67, 0, 0, [])) (v := t) rfl
      obtain ⟨n26, l26, h⟩ := v_al h (by decide +kernel : pins 172 67 = some (5, 68, 0, 0, [])) (v := t) rfl
      obtain ⟨n27, l27, h⟩ := w_row (k := 62) S34.1 h (by decide +kernel : pins 172 68 = some (22, 71, 13, 62, [])) (by decide)
      obtain ⟨n28, w71, l28, ⟨e71, i71⟩, h⟩ := u_ic h (by decide +kernel : pins 172 71 = some (0, 72, 0, 0, [])) (by decide)
      obtain ⟨n29, r72, s72, l29, h72, h⟩ := pinv_call h (by decide +kernel : pins 172 72 = some (36, 75, 170, 0, [3]))
      have h72 : prun n29 170 0 (lv_args 0 [.ref t, .ref (A 62), .int w71]) [] s34 = some (r72, s72) := h72
      have PC72 : PS (vw t A σ) (vw t A s34) := ps34
      obtain ⟨er72, S72, f72, z72, g72, J72⟩ := takeWord_ S34.1 h72 (by decide) (by rw [i71]; decide) ((hB.of PC72).2) (PC72.2.2 J)
      have er72 : r72 = none := er72
      subst er72
      try dsimp only at S72
      try dsimp only at f72
      try dsimp only at z72
      try dsimp only at g72
      try dsimp only at J72
      have ps72 : PS (vw t A s34) (vw t A s72) := tw_ps (k := 62) (by decide) f72 g72 J72
      have h : prun n29 172 75 [(5, .int w43), (4, .int w40), (3, .int w38), (2, .int w34), (0, .ref t), (1, .int hh)] [] s72 = some x := h
      obtain ⟨n30, l30, h⟩ := v_al h (by decide +kernel : pins 172 75 = some (5, 76, 0, 0, [])) (v := t) rfl
      obtain ⟨n31, r76, s76, l31, h76, h⟩ := pinv_call h (by decide +kernel : pins 172 76 = some (36, 79, 169, 0, [1]))
      have h76 : prun n31 169 0 (lv_args 0 [.ref t]) [] s72 = some (r76, s76) := h76
      have PC76 : PS (vw t A σ) (vw t A s72) := (ps34.tr ps72)
      obtain ⟨w76, er76, S76, ps76, kg76, nn76⟩ := pc_takeAddress S72.1 h76 (hB.of PC76)
      have er76 : r76 = some (.int w76) := er76
      subst er76
      try dsimp only at S76
      try dsimp only at ps76
      try dsimp only at kg76
      try dsimp only at nn76
      have h : prun n31 172 79 [(5, .int w43), (4, .int w40), (3, .int w38), (2, .int w34), (0, .ref t), (1, .int hh)] [.int w76] s76 = some x := h
      obtain ⟨n32, l32, h⟩ := v_is h (by decide +kernel : pins 172 79 = some (6, 81, 4, 0, []))
      have h : prun n32 172 81 [(4, .int w76), (5, .int w43), (3, .int w38), (2, .int w34), (0, .ref t), (1, .int hh)] [] s76 = some x := h
      obtain ⟨n33, l33, h⟩ := v_al h (by decide +kernel : pins 172 81 = some (5, 82, 0, 0, [])) (v := t) rfl
      obtain ⟨n34, w82, l34, ⟨e82, i82⟩, h⟩ := u_ic h (by decide +kernel : pins 172 82 = some (0, 83, 2, 0, [])) (by decide)
      obtain ⟨n35, r83, s83, l35, h83, h⟩ := pinv_call h (by decide +kernel : pins 172 83 = some (36, 86, 168, 0, [2]))
      have h83 : prun n35 168 0 (lv_args 0 [.ref t, .int w82]) [] s76 = some (r83, s83) := h83
      obtain ⟨w83, er83, S83, f83⟩ := take_2 S76.1 h83 e82
      have er83 : r83 = some (.int w83) := er83
      subst er83
      try dsimp only at S83
      try dsimp only at f83
      obtain ⟨ps83, kg83⟩ : PS (vw t A s76) (vw t A s83) ∧ KG (vw t A s76) (vw t A s83) := take_ps (P := True) (f83.imp_right (fun q => ⟨trivial, q.2.2.2.2.imp (fun _ z => z.2)⟩))
      have h : prun n35 172 86 [(4, .int w76), (5, .int w43), (3, .int w38), (2, .int w34), (0, .ref t), (1, .int hh)] [.int w83] s83 = some x := h
      obtain ⟨n36, l36, h⟩ := v_is h (by decide +kernel : pins 172 86 = some (6, 88, 5, 0, []))
      have h : prun n36 172 88 [(5, .int w83), (4, .int w76), (3, .int w38), (2, .int w34), (0, .ref t), (1, .int hh)] [] s83 = some x := h
      obtain ⟨n37, l37, h⟩ := u_go h (by decide +kernel : pins 172 88 = some (20, 91, 0, ((385 : Nat) : Int), []))
      have h := prun_lv h (lv' := [(6, .int 0), (2, .int w34), (3, .int w38), (4, .int w76), (5, .int w83), (0, .ref t), (1, .int hh)]) (lvLe.cons (lvLe.cons (lvLe.cons (lvLe.cons (lvLe.cons (lvLe.cons lvLe.nil rfl) rfl) rfl) rfl) rfl) rfl) (by decide : ([5, 4, 3, 2, 0, 1] : List Nat).Nodup) (by decide : ([6, 2, 3, 4, 5, 0, 1] : List Nat).Nodup)
      have PT : PS (vw t A s34) (vw t A s83) := ((ps72.tr ps76).tr ps83)
      have PE : PS (vw t A σ) (vw t A s83) := (((ps34.tr ps72).tr ps76).tr ps83)
      have F : ∀ j q : Nat, ¬ (59 ≤ j ∧ j ≤ 67) → vw t A s83 j q = vw t A σ j q := PE.1
      have FI : ∀ j q : Nat, ¬ (59 ≤ j ∧ j ≤ 67) → gI (vw t A s83) j q = gI (vw t A σ) j q := fun j q hj => by unfold gI; rw [F j q hj]
      obtain ⟨w, y1, y2, y3⟩ := pc_tk_d S83.1 h hh0 (by rw [FI 46 0 (by decide)]; exact HA) (by rw [FI 47 0 (by decide)]; exact HM) (by rw [FI 31 _ (by decide)]; exact hR) (by rw [FI 20 _ (by decide)]; exact hw) (by rw [FI 16 _ (by decide)]; exact hS) (by rw [FI 32 _ (by decide)]; exact hE) (fun k5 => by exfalso; omega)
      refine ⟨w, y1, (((S34.tr S72).tr S76).tr S83).tr y2, vw t A s83, _, _, _, F, y3, nn76, fun g => ?_⟩
      have g34 := (PT.2.1 g)
      rcases f34 with ⟨_, f⟩ | ⟨_, _, a3, a4, aa, a5, f⟩
      · exact absurd (by rw [f, gI_sc (by decide)]) g34
      have kd0 : w34 = gI (vw t A σ) 57 0 := by rw [a4]; congr 1; show (gI (vw t A σ) 59 0).toInt.toNat = 0; rw [h59]; rfl
      exact ⟨by rw [kd0], by omega, fun k5 => by exfalso; omega⟩
  · obtain ⟨n38, l38, h⟩ := v_il h (by decide +kernel : pins 172 51 = some (3, 52, 2, 0, [])) (v := w34) rfl
    obtain ⟨n39, w52, l39, ⟨e52, i52⟩, h⟩ := u_ic h (by decide +kernel : pins 172 52 = some (0, 53, 2, 0, [])) (by decide)
    obtain ⟨n40, l40, ⟨c53, h⟩ | ⟨c53, h⟩⟩ := u_ic0 h (by decide +kernel : pins 172 53 = some (17, 56, 0, ((61 : Nat) : Int), []))
    · obtain ⟨n41, l41, h⟩ := v_il h (by decide +kernel : pins 172 61 = some (3, 62, 2, 0, [])) (v := w34) rfl
      obtain ⟨n42, w62, l42, ⟨e62, i62⟩, h⟩ := u_ic h (by decide +kernel : pins 172 62 = some (0, 63, 3, 0, [])) (by decide)
      obtain ⟨n43, l43, ⟨c63, h⟩ | ⟨c63, h⟩⟩ := u_ic1 h (by decide +kernel : pins 172 63 = some (17, 66, 1, ((75 : Nat) : Int), []))
      · obtain ⟨n44, l44, h⟩ := v_al h (by decide +kernel : pins 172 75 = some (5, 76, 0, 0, [])) (v := t) rfl
        obtain ⟨n45, r76, s76, l45, h76, h⟩ := pinv_call h (by decide +kernel : pins 172 76 = some (36, 79, 169, 0, [1]))
        have h76 : prun n45 169 0 (lv_args 0 [.ref t]) [] s34 = some (r76, s76) := h76
        have PC76 : PS (vw t A σ) (vw t A s34) := ps34
        obtain ⟨w76, er76, S76, ps76, kg76, nn76⟩ := pc_takeAddress S34.1 h76 (hB.of PC76)
        have er76 : r76 = some (.int w76) := er76
        subst er76
        try dsimp only at S76
        try dsimp only at ps76
        try dsimp only at kg76
        try dsimp only at nn76
        have h : prun n45 172 79 [(5, .int w43), (4, .int w40), (3, .int w38), (2, .int w34), (0, .ref t), (1, .int hh)] [.int w76] s76 = some x := h
        obtain ⟨n46, l46, h⟩ := v_is h (by decide +kernel : pins 172 79 = some (6, 81, 4, 0, []))
        have h : prun n46 172 81 [(4, .int w76), (5, .int w43), (3, .int w38), (2, .int w34), (0, .ref t), (1, .int hh)] [] s76 = some x := h
        obtain ⟨n47, l47, h⟩ := v_al h (by decide +kernel : pins 172 81 = some (5, 82, 0, 0, [])) (v := t) rfl
        obtain ⟨n48, w82, l48, ⟨e82, i82⟩, h⟩ := u_ic h (by decide +kernel : pins 172 82 = some (0, 83, 2, 0, [])) (by decide)
        obtain ⟨n49, r83, s83, l49, h83, h⟩ := pinv_call h (by decide +kernel : pins 172 83 = some (36, 86, 168, 0, [2]))
        have h83 : prun n49 168 0 (lv_args 0 [.ref t, .int w82]) [] s76 = some (r83, s83) := h83
        obtain ⟨w83, er83, S83, f83⟩ := take_2 S76.1 h83 e82
        have er83 : r83 = some (.int w83) := er83
        subst er83
        try dsimp only at S83
        try dsimp only at f83
        obtain ⟨ps83, kg83⟩ : PS (vw t A s76) (vw t A s83) ∧ KG (vw t A s76) (vw t A s83) := take_ps (P := True) (f83.imp_right (fun q => ⟨trivial, q.2.2.2.2.imp (fun _ z => z.2)⟩))
        have h : prun n49 172 86 [(4, .int w76), (5, .int w43), (3, .int w38), (2, .int w34), (0, .ref t), (1, .int hh)] [.int w83] s83 = some x := h
        obtain ⟨n50, l50, h⟩ := v_is h (by decide +kernel : pins 172 86 = some (6, 88, 5, 0, []))
        have h : prun n50 172 88 [(5, .int w83), (4, .int w76), (3, .int w38), (2, .int w34), (0, .ref t), (1, .int hh)] [] s83 = some x := h
        obtain ⟨n51, l51, h⟩ := u_go h (by decide +kernel : pins 172 88 = some (20, 91, 0, ((385 : Nat) : Int), []))
        have h := prun_lv h (lv' := [(6, .int 0), (2, .int w34), (3, .int w38), (4, .int w76), (5, .int w83), (0, .ref t), (1, .int hh)]) (lvLe.cons (lvLe.cons (lvLe.cons (lvLe.cons (lvLe.cons (lvLe.cons lvLe.nil rfl) rfl) rfl) rfl) rfl) rfl) (by decide : ([5, 4, 3, 2, 0, 1] : List Nat).Nodup) (by decide : ([6, 2, 3, 4, 5, 0, 1] : List Nat).Nodup)
        have PT : PS (vw t A s34) (vw t A s83) := (ps76.tr ps83)
        have PE : PS (vw t A σ) (vw t A s83) := ((ps34.tr ps76).tr ps83)
        have F : ∀ j q : Nat, ¬ (59 ≤ j ∧ j ≤ 67) → vw t A s83 j q = vw t A σ j q := PE.1
        have FI : ∀ j q : Nat, ¬ (59 ≤ j ∧ j ≤ 67) → gI (vw t A s83) j q = gI (vw t A σ) j q := fun j q hj => by unfold gI; rw [F j q hj]
        obtain ⟨w, y1, y2, y3⟩ := pc_tk_d S83.1 h hh0 (by rw [FI 46 0 (by decide)]; exact HA) (by rw [FI 47 0 (by decide)]; exact HM) (by rw [FI 31 _ (by decide)]; exact hR) (by rw [FI 20 _ (by decide)]; exact hw) (by rw [FI 16 _ (by decide)]; exact hS) (by rw [FI 32 _ (by decide)]; exact hE) (fun k5 => by exfalso; omega)
        refine ⟨w, y1, ((S34.tr S76).tr S83).tr y2, vw t A s83, _, _, _, F, y3, nn76, fun g => ?_⟩
        have g34 := (PT.2.1 g)
        rcases f34 with ⟨_, f⟩ | ⟨_, _, a3, a4, aa, a5, f⟩
        · exact absurd (by rw [f, gI_sc (by decide)]) g34
        have kd0 : w34 = gI (vw t A σ) 57 0 := by rw [a4]; congr 1; show (gI (vw t A σ) 59 0).toInt.toNat = 0; rw [h59]; rfl
        exact ⟨by rw [kd0], by omega, fun k5 => by exfalso; omega⟩
      · obtain ⟨n52, l52, h⟩ := v_al h (by decide +kernel : pins 172 66 = some (5, 67, 0, 0, [])) (v := t) rfl
        obtain ⟨n53, l53, h⟩ := v_al h (by decide +kernel : pins 172 67 = some (5, 68, 0, 0, [])) (v := t) rfl
        obtain ⟨n54, l54, h⟩ := w_row (k := 62) S34.1 h (by decide +kernel : pins 172 68 = some (22, 71, 13, 62, [])) (by decide)
        obtain ⟨n55, w71, l55, ⟨e71, i71⟩, h⟩ := u_ic h (by decide +kernel : pins 172 71 = some (0, 72, 0, 0, [])) (by decide)
        obtain ⟨n56, r72, s72, l56, h72, h⟩ := pinv_call h (by decide +kernel : pins 172 72 = some (36, 75, 170, 0, [3]))
        have h72 : prun n56 170 0 (lv_args 0 [.ref t, .ref (A 62), .int w71]) [] s34 = some (r72, s72) := h72
        have PC72 : PS (vw t A σ) (vw t A s34) := ps34
        obtain ⟨er72, S72, f72, z72, g72, J72⟩ := takeWord_ S34.1 h72 (by decide) (by rw [i71]; decide) ((hB.of PC72).2) (PC72.2.2 J)
        have er72 : r72 = none := er72
        subst er72
        try dsimp only at S72
        try dsimp only at f72
        try dsimp only at z72
        try dsimp only at g72
        try dsimp only at J72
        have ps72 : PS (vw t A s34) (vw t A s72) := tw_ps (k := 62) (by decide) f72 g72 J72
        have h : prun n56 172 75 [(5, .int w43), (4, .int w40), (3, .int w38), (2, .int w34), (0, .ref t), (1, .int hh)] [] s72 = some x := h
        obtain ⟨n57, l57, h⟩ := v_al h (by decide +kernel : pins 172 75 = some (5, 76, 0, 0, [])) (v := t) rfl
        obtain ⟨n58, r76, s76, l58, h76, h⟩ := pinv_call h (by decide +kernel : pins 172 76 = some (36, 79, 169, 0, [1]))
        have h76 : prun n58 169 0 (lv_args 0 [.ref t]) [] s72 = some (r76, s76) := h76
        have PC76 : PS (vw t A σ) (vw t A s72) := (ps34.tr ps72)
        obtain ⟨w76, er76, S76, ps76, kg76, nn76⟩ := pc_takeAddress S72.1 h76 (hB.of PC76)
        have er76 : r76 = some (.int w76) := er76
        subst er76
        try dsimp only at S76
        try dsimp only at ps76
        try dsimp only at kg76
        try dsimp only at nn76
        have h : prun n58 172 79 [(5, .int w43), (4, .int w40), (3, .int w38), (2, .int w34), (0, .ref t), (1, .int hh)] [.int w76] s76 = some x := h
        obtain ⟨n59, l59, h⟩ := v_is h (by decide +kernel : pins 172 79 = some (6, 81, 4, 0, []))
        have h : prun n59 172 81 [(4, .int w76), (5, .int w43), (3, .int w38), (2, .int w34), (0, .ref t), (1, .int hh)] [] s76 = some x := h
        obtain ⟨n60, l60, h⟩ := v_al h (by decide +kernel : pins 172 81 = some (5, 82, 0, 0, [])) (v := t) rfl
        obtain ⟨n61, w82, l61, ⟨e82, i82⟩, h⟩ := u_ic h (by decide +kernel : pins 172 82 = some (0, 83, 2, 0, [])) (by decide)
        obtain ⟨n62, r83, s83, l62, h83, h⟩ := pinv_call h (by decide +kernel : pins 172 83 = some (36, 86, 168, 0, [2]))
        have h83 : prun n62 168 0 (lv_args 0 [.ref t, .int w82]) [] s76 = some (r83, s83) := h83
        obtain ⟨w83, er83, S83, f83⟩ := take_2 S76.1 h83 e82
        have er83 : r83 = some (.int w83) := er83
        subst er83
        try dsimp only at S83
        try dsimp only at f83
        obtain ⟨ps83, kg83⟩ : PS (vw t A s76) (vw t A s83) ∧ KG (vw t A s76) (vw t A s83) := take_ps (P := True) (f83.imp_right (fun q => ⟨trivial, q.2.2.2.2.imp (fun _ z => z.2)⟩))
        have h : prun n62 172 86 [(4, .int w76), (5, .int w43), (3, .int w38), (2, .int w34), (0, .ref t), (1, .int hh)] [.int w83] s83 = some x := h
        obtain ⟨n63, l63, h⟩ := v_is h (by decide +kernel : pins 172 86 = some (6, 88, 5, 0, []))
        have h : prun n63 172 88 [(5, .int w83), (4, .int w76), (3, .int w38), (2, .int w34), (0, .ref t), (1, .int hh)] [] s83 = some x := h
        obtain ⟨n64, l64, h⟩ := u_go h (by decide +kernel : pins 172 88 = some (20, 91, 0, ((385 : Nat) : Int), []))
        have h := prun_lv h (lv' := [(6, .int 0), (2, .int w34), (3, .int w38), (4, .int w76), (5, .int w83), (0, .ref t), (1, .int hh)]) (lvLe.cons (lvLe.cons (lvLe.cons (lvLe.cons (lvLe.cons (lvLe.cons lvLe.nil rfl) rfl) rfl) rfl) rfl) rfl) (by decide : ([5, 4, 3, 2, 0, 1] : List Nat).Nodup) (by decide : ([6, 2, 3, 4, 5, 0, 1] : List Nat).Nodup)
        have PT : PS (vw t A s34) (vw t A s83) := ((ps72.tr ps76).tr ps83)
        have PE : PS (vw t A σ) (vw t A s83) := (((ps34.tr ps72).tr ps76).tr ps83)
        have F : ∀ j q : Nat, ¬ (59 ≤ j ∧ j ≤ 67) → vw t A s83 j q = vw t A σ j q := PE.1
        have FI : ∀ j q : Nat, ¬ (59 ≤ j ∧ j ≤ 67) → gI (vw t A s83) j q = gI (vw t A σ) j q := fun j q hj => by unfold gI; rw [F j q hj]
        obtain ⟨w, y1, y2, y3⟩ := pc_tk_d S83.1 h hh0 (by rw [FI 46 0 (by decide)]; exact HA) (by rw [FI 47 0 (by decide)]; exact HM) (by rw [FI 31 _ (by decide)]; exact hR) (by rw [FI 20 _ (by decide)]; exact hw) (by rw [FI 16 _ (by decide)]; exact hS) (by rw [FI 32 _ (by decide)]; exact hE) (fun k5 => by exfalso; omega)
        refine ⟨w, y1, (((S34.tr S72).tr S76).tr S83).tr y2, vw t A s83, _, _, _, F, y3, nn76, fun g => ?_⟩
        have g34 := (PT.2.1 g)
        rcases f34 with ⟨_, f⟩ | ⟨_, _, a3, a4, aa, a5, f⟩
        · exact absurd (by rw [f, gI_sc (by decide)]) g34
        have kd0 : w34 = gI (vw t A σ) 57 0 := by rw [a4]; congr 1; show (gI (vw t A σ) 59 0).toInt.toNat = 0; rw [h59]; rfl
        exact ⟨by rw [kd0], by omega, fun k5 => by exfalso; omega⟩
    · obtain ⟨n65, l65, h⟩ := v_il h (by decide +kernel : pins 172 56 = some (3, 57, 2, 0, [])) (v := w34) rfl
      obtain ⟨n66, w57, l66, ⟨e57, i57⟩, h⟩ := u_ic h (by decide +kernel : pins 172 57 = some (0, 58, 3, 0, [])) (by decide)
      obtain ⟨n67, l67, ⟨c58, h⟩ | ⟨c58, h⟩⟩ := u_ic1 h (by decide +kernel : pins 172 58 = some (17, 61, 1, ((91 : Nat) : Int), []))
      · obtain ⟨n68, l68, h⟩ := v_il h (by decide +kernel : pins 172 91 = some (3, 92, 2, 0, [])) (v := w34) rfl
        obtain ⟨n69, w92, l69, ⟨e92, i92⟩, h⟩ := u_ic h (by decide +kernel : pins 172 92 = some (0, 93, 4, 0, [])) (by decide)
        obtain ⟨n70, l70, ⟨c93, h⟩ | ⟨c93, h⟩⟩ := u_ic1 h (by decide +kernel : pins 172 93 = some (17, 96, 1, ((204 : Nat) : Int), []))
        · obtain ⟨n71, l71, h⟩ := v_il h (by decide +kernel : pins 172 204 = some (3, 205, 2, 0, [])) (v := w34) rfl
          obtain ⟨n72, w205, l72, ⟨e205, i205⟩, h⟩ := u_ic h (by decide +kernel : pins 172 205 = some (0, 206, 5, 0, [])) (by decide)
          obtain ⟨n73, l73, ⟨c206, h⟩ | ⟨c206, h⟩⟩ := u_ic1 h (by decide +kernel : pins 172 206 = some (17, 209, 1, ((380 : Nat) : Int), []))
          · obtain ⟨n74, l74, h⟩ := v_al h (by decide +kernel : pins 172 380 = some (5, 381, 0, 0, [])) (v := t) rfl
            obtain ⟨n75, w381, l75, ⟨e381, i381⟩, h⟩ := u_ic h (by decide +kernel : pins 172 381 = some (0, 382, 0, 0, [])) (by decide)
            obtain ⟨n76, s382, l76, S382, u382, h⟩ := w_put (k := 60) S34.1 h (by decide +kernel : pins 172 382 = some (23, 385, 13, 60, [])) (by decide)
            have h := prun_lv h (lv' := [(6, .int 0), (2, .int w34), (3, .int w38), (4, .int w40), (5, .int w43), (0, .ref t), (1, .int hh)]) (lvLe.cons (lvLe.cons (lvLe.cons (lvLe.cons (lvLe.cons (lvLe.cons lvLe.nil rfl) rfl) rfl) rfl) rfl) rfl) (by decide : ([5, 4, 3, 2, 0, 1] : List Nat).Nodup) (by decide : ([6, 2, 3, 4, 5, 0, 1] : List Nat).Nodup)
            have yy382 : PS (vw t A s34) (vw t A s382) := by rw [u382]; exact PS.bad e381
            have PT : PS (vw t A s34) (vw t A s382) := yy382
            have PE : PS (vw t A σ) (vw t A s382) := (ps34.tr yy382)
            have F : ∀ j q : Nat, ¬ (59 ≤ j ∧ j ≤ 67) → vw t A s382 j q = vw t A σ j q := PE.1
            have FI : ∀ j q : Nat, ¬ (59 ≤ j ∧ j ≤ 67) → gI (vw t A s382) j q = gI (vw t A σ) j q := fun j q hj => by unfold gI; rw [F j q hj]
            obtain ⟨w, y1, y2, y3⟩ := pc_tk_d S382.1 h hh0 (by rw [FI 46 0 (by decide)]; exact HA) (by rw [FI 47 0 (by decide)]; exact HM) (by rw [FI 31 _ (by decide)]; exact hR) (by rw [FI 20 _ (by decide)]; exact hw) (by rw [FI 16 _ (by decide)]; exact hS) (by rw [FI 32 _ (by decide)]; exact hE) (fun k5 => by exfalso; omega)
            refine ⟨w, y1, (S34.tr S382).tr y2, vw t A s382, _, _, _, F, y3, by rw [i40]; decide, fun g => ?_⟩
            have g34 := (PT.2.1 g)
            rcases f34 with ⟨_, f⟩ | ⟨_, _, a3, a4, aa, a5, f⟩
            · exact absurd (by rw [f, gI_sc (by decide)]) g34
            have kd0 : w34 = gI (vw t A σ) 57 0 := by rw [a4]; congr 1; show (gI (vw t A σ) 59 0).toInt.toNat = 0; rw [h59]; rfl
            exact ⟨by rw [kd0], by omega, fun k5 => by exfalso; omega⟩
          · obtain ⟨n77, l77, h⟩ := v_al h (by decide +kernel : pins 172 209 = some (5, 210, 0, 0, [])) (v := t) rfl
            obtain ⟨n78, w210, l78, ⟨e210, i210⟩, h⟩ := u_ic h (by decide +kernel : pins 172 210 = some (0, 211, 1, 0, [])) (by decide)
            obtain ⟨n79, r211, s211, l79, h211, h⟩ := pinv_call h (by decide +kernel : pins 172 211 = some (36, 214, 168, 0, [2]))
            have h211 : prun n79 168 0 (lv_args 0 [.ref t, .int w210]) [] s34 = some (r211, s211) := h211
            obtain ⟨w211, er211, S211, f211⟩ := take_1 S34.1 h211 e210
            have er211 : r211 = some (.int w211) := er211
            subst er211
            try dsimp only at S211
            try dsimp only at f211
            obtain ⟨ps211, kg211⟩ : PS (vw t A s34) (vw t A s211) ∧ KG (vw t A s34) (vw t A s211) := take_ps (P := True) (f211.imp_right (fun q => ⟨trivial, q.2.2.2.2.imp (fun _ z => z.2)⟩))
            have h : prun n79 172 214 [(5, .int w43), (4, .int w40), (3, .int w38), (2, .int w34), (0, .ref t), (1, .int hh)] [.int w211] s211 = some x := h
            obtain ⟨n80, l80, h⟩ := v_is h (by decide +kernel : pins 172 214 = some (6, 215, 3, 0, []))
            have h : prun n80 172 215 [(3, .int w211), (5, .int w43), (4, .int w40), (2, .int w34), (0, .ref t), (1, .int hh)] [] s211 = some x := h
            obtain ⟨n81, l81, h⟩ := v_il h (by decide +kernel : pins 172 215 = some (3, 216, 3, 0, [])) (v := w211) rfl
            obtain ⟨n82, w216, l82, ⟨e216, i216⟩, h⟩ := u_ic h (by decide +kernel : pins 172 216 = some (0, 217, 1, 0, [])) (by decide)
            obtain ⟨n83, l83, ⟨c217, h⟩ | ⟨c217, h⟩⟩ := u_ic2 h (by decide +kernel : pins 172 217 = some (17, 220, 2, ((226 : Nat) : Int), []))
            · obtain ⟨n84, l84, h⟩ := v_al h (by decide +kernel : pins 172 226 = some (5, 227, 0, 0, [])) (v := t) rfl
              obtain ⟨n85, w227, l85, ⟨e227, i227⟩, h⟩ := u_ic h (by decide +kernel : pins 172 227 = some (0, 228, 0, 0, [])) (by decide)
              obtain ⟨n86, s228, l86, S228, u228, h⟩ := w_put (k := 60) S211.1 h (by decide +kernel : pins 172 228 = some (23, 231, 13, 60, [])) (by decide)
              obtain ⟨n87, w231, l87, ⟨e231, i231⟩, h⟩ := u_ic h (by decide +kernel : pins 172 231 = some (0, 232, 0, 0, [])) (by decide)
              obtain ⟨n88, l88, h⟩ := v_is h (by decide +kernel : pins 172 232 = some (6, 234, 6, 0, []))
              have h : prun n88 172 234 [(6, .int w231), (3, .int w211), (5, .int w43), (4, .int w40), (2, .int w34), (0, .ref t), (1, .int hh)] [] s228 = some x := h
              have h := prun_lv h (lv' := [(6, .int w231), (2, .int w34), (3, .int w211), (4, .int w40), (5, .int w43), (0, .ref t), (1, .int hh)]) (lvLe.cons (lvLe.cons (lvLe.cons (lvLe.cons (lvLe.cons (lvLe.cons (lvLe.cons lvLe.nil rfl) rfl) rfl) rfl) rfl) rfl) rfl) (by decide : ([6, 3, 5, 4, 2, 0, 1] : List Nat).Nodup) (by decide : ([6, 2, 3, 4, 5, 0, 1] : List Nat).Nodup)
              have yy228 : PS (vw t A s211) (vw t A s228) := by rw [u228]; exact PS.bad e227
              have PX : PS (vw t A σ) (vw t A s228) := ((ps34.tr ps211).tr yy228)
              have PT0 : PS (vw t A s34) (vw t A s228) := (ps211.tr yy228)
              have RG0 : RG (vw t A s228) w231.toInt w211.toInt := by
                intro g
                exact absurd (by rw [u228, gI_sc (by decide), e227]; rfl) g
              obtain ⟨m2, c2, σ2, S2, Q2, G2, h⟩ := pc_tk_b _ _ _ x S228.1 ⟨by rw [i231]; decide, hB.of PX, PX.2.2 J, RG0⟩ h
              obtain ⟨n801, l801, h⟩ := u_go h (by decide +kernel : pins 172 377 = some (20, 380, 0, ((385 : Nat) : Int), []))
              have h := prun_lv h (lv' := [(6, .int c2), (2, .int w34), (3, .int w211), (4, .int w40), (5, .int w43), (0, .ref t), (1, .int hh)]) (lvLe.cons (lvLe.cons (lvLe.cons (lvLe.cons (lvLe.cons (lvLe.cons (lvLe.cons lvLe.nil rfl) rfl) rfl) rfl) rfl) rfl) rfl) (by decide : ([6, 2, 3, 4, 5, 0, 1] : List Nat).Nodup) (by decide : ([6, 2, 3, 4, 5, 0, 1] : List Nat).Nodup)
              have PT : PS (vw t A s34) (vw t A σ2) := PT0.tr Q2
              have PE : PS (vw t A σ) (vw t A σ2) := PX.tr Q2
              have F : ∀ j q : Nat, ¬ (59 ≤ j ∧ j ≤ 67) → vw t A σ2 j q = vw t A σ j q := PE.1
              have FI : ∀ j q : Nat, ¬ (59 ≤ j ∧ j ≤ 67) → gI (vw t A σ2) j q = gI (vw t A σ) j q := fun j q hj => by unfold gI; rw [F j q hj]
              obtain ⟨w, y1, y2, y3⟩ := pc_tk_d S2.1 h hh0 (by rw [FI 46 0 (by decide)]; exact HA) (by rw [FI 47 0 (by decide)]; exact HM) (by rw [FI 31 _ (by decide)]; exact hR) (by rw [FI 20 _ (by decide)]; exact hw) (by rw [FI 16 _ (by decide)]; exact hS) (by rw [FI 32 _ (by decide)]; exact hE) (fun k5 g => ⟨(G2 g).1, (G2 g).2.1⟩)
              refine ⟨w, y1, (((S34.tr S211).tr S228).tr S2).tr y2, vw t A σ2, _, _, _, F, y3, by rw [i40]; decide, fun g => ?_⟩
              have g34 := (PT.2.1 g)
              rcases f34 with ⟨_, f⟩ | ⟨_, _, a3, a4, aa, a5, f⟩
              · exact absurd (by rw [f, gI_sc (by decide)]) g34
              have kd0 : w34 = gI (vw t A σ) 57 0 := by rw [a4]; congr 1; show (gI (vw t A σ) 59 0).toInt.toNat = 0; rw [h59]; rfl
              refine ⟨by rw [kd0], by omega, fun k5 => ?_⟩
              have g211 : ¬ gI (vw t A s211) 60 0 = 0 := (yy228.tr Q2).2.1 g
              rcases f211 with ⟨_, f2⟩ | ⟨_, _, b3, b4, ab, b5, f2⟩
              · exact absurd (by rw [f2, gI_sc (by decide)]) g211
              have n1 : w211 = gI (vw t A σ) 57 1 := by
                rw [b4, f, gI_ne (by decide), gI_sc (by decide)]
                congr 1
                show aa.toInt.toNat = 1
                rw [a5, h59]
                rfl
              exact ⟨by rw [n1], (G2 g).1, (G2 g).2.2⟩
            · obtain ⟨n89, l89, h⟩ := v_il h (by decide +kernel : pins 172 220 = some (3, 221, 3, 0, [])) (v := w211) rfl
              obtain ⟨n90, w221, l90, ⟨e221, i221⟩, h⟩ := u_ic h (by decide +kernel : pins 172 221 = some (0, 223, 8, 0, [])) (by decide)
              obtain ⟨n91, l91, ⟨c223, h⟩ | ⟨c223, h⟩⟩ := u_ic5 h (by decide +kernel : pins 172 223 = some (17, 226, 5, ((231 : Nat) : Int), []))
              · obtain ⟨n92, w231, l92, ⟨e231, i231⟩, h⟩ := u_ic h (by decide +kernel : pins 172 231 = some (0, 232, 0, 0, [])) (by decide)
                obtain ⟨n93, l93, h⟩ := v_is h (by decide +kernel : pins 172 232 = some (6, 234, 6, 0, []))
                have h : prun n93 172 234 [(6, .int w231), (3, .int w211), (5, .int w43), (4, .int w40), (2, .int w34), (0, .ref t), (1, .int hh)] [] s211 = some x := h
                have h := prun_lv h (lv' := [(6, .int w231), (2, .int w34), (3, .int w211), (4, .int w40), (5, .int w43), (0, .ref t), (1, .int hh)]) (lvLe.cons (lvLe.cons (lvLe.cons (lvLe.cons (lvLe.cons (lvLe.cons (lvLe.cons lvLe.nil rfl) rfl) rfl) rfl) rfl) rfl) rfl) (by decide : ([6, 3, 5, 4, 2, 0, 1] : List Nat).Nodup) (by decide : ([6, 2, 3, 4, 5, 0, 1] : List Nat).Nodup)
                have PX : PS (vw t A σ) (vw t A s211) := (ps34.tr ps211)
                have PT0 : PS (vw t A s34) (vw t A s211) := ps211
                have RG0 : RG (vw t A s211) w231.toInt w211.toInt := by
                  intro g
                  have g211 := g
                  have g34 := ps211.2.1 g
                  rcases f34 with ⟨_, f⟩ | ⟨_, _, a3, a4, aa, a5, f⟩
                  · exact absurd (by rw [f, gI_sc (by decide)]) g34
                  rcases f211 with ⟨_, f2⟩ | ⟨_, _, b3, b4, ab, b5, f2⟩
                  · exact absurd (by rw [f2, gI_sc (by decide)]) g211
                  refine ⟨by omega, fun k hk => by rw [i231] at hk; omega, fun _ => ?_, fun e => by rw [i231] at e; omega⟩
                  rw [f2, gI_sc (by decide), b5, f, gI_sc (by decide), a5, h59]
                  rfl
                obtain ⟨m2, c2, σ2, S2, Q2, G2, h⟩ := pc_tk_b _ _ _ x S211.1 ⟨by rw [i231]; decide, hB.of PX, PX.2.2 J, RG0⟩ h
                obtain ⟨n801, l801, h⟩ := u_go h (by decide +kernel : pins 172 377 = some (20, 380, 0, ((385 : Nat) : Int), []))
                have h := prun_lv h (lv' := [(6, .int c2), (2, .int w34), (3, .int w211), (4, .int w40), (5, .int w43), (0, .ref t), (1, .int hh)]) (lvLe.cons (lvLe.cons (lvLe.cons (lvLe.cons (lvLe.cons (lvLe.cons (lvLe.cons lvLe.nil rfl) rfl) rfl) rfl) rfl) rfl) rfl) (by decide : ([6, 2, 3, 4, 5, 0, 1] : List Nat).Nodup) (by decide : ([6, 2, 3, 4, 5, 0, 1] : List Nat).Nodup)
                have PT : PS (vw t A s34) (vw t A σ2) := PT0.tr Q2
                have PE : PS (vw t A σ) (vw t A σ2) := PX.tr Q2
                have F : ∀ j q : Nat, ¬ (59 ≤ j ∧ j ≤ 67) → vw t A σ2 j q = vw t A σ j q := PE.1
                have FI : ∀ j q : Nat, ¬ (59 ≤ j ∧ j ≤ 67) → gI (vw t A σ2) j q = gI (vw t A σ) j q := fun j q hj => by unfold gI; rw [F j q hj]
                obtain ⟨w, y1, y2, y3⟩ := pc_tk_d S2.1 h hh0 (by rw [FI 46 0 (by decide)]; exact HA) (by rw [FI 47 0 (by decide)]; exact HM) (by rw [FI 31 _ (by decide)]; exact hR) (by rw [FI 20 _ (by decide)]; exact hw) (by rw [FI 16 _ (by decide)]; exact hS) (by rw [FI 32 _ (by decide)]; exact hE) (fun k5 g => ⟨(G2 g).1, (G2 g).2.1⟩)
                refine ⟨w, y1, ((S34.tr S211).tr S2).tr y2, vw t A σ2, _, _, _, F, y3, by rw [i40]; decide, fun g => ?_⟩
                have g34 := (PT.2.1 g)
                rcases f34 with ⟨_, f⟩ | ⟨_, _, a3, a4, aa, a5, f⟩
                · exact absurd (by rw [f, gI_sc (by decide)]) g34
                have kd0 : w34 = gI (vw t A σ) 57 0 := by rw [a4]; congr 1; show (gI (vw t A σ) 59 0).toInt.toNat = 0; rw [h59]; rfl
                refine ⟨by rw [kd0], by omega, fun k5 => ?_⟩
                have g211 : ¬ gI (vw t A s211) 60 0 = 0 := Q2.2.1 g
                rcases f211 with ⟨_, f2⟩ | ⟨_, _, b3, b4, ab, b5, f2⟩
                · exact absurd (by rw [f2, gI_sc (by decide)]) g211
                have n1 : w211 = gI (vw t A σ) 57 1 := by
                  rw [b4, f, gI_ne (by decide), gI_sc (by decide)]
                  congr 1
                  show aa.toInt.toNat = 1
                  rw [a5, h59]
                  rfl
                exact ⟨by rw [n1], (G2 g).1, (G2 g).2.2⟩
              · obtain ⟨n94, l94, h⟩ := v_al h (by decide +kernel : pins 172 226 = some (5, 227, 0, 0, [])) (v := t) rfl
                obtain ⟨n95, w227, l95, ⟨e227, i227⟩, h⟩ := u_ic h (by decide +kernel : pins 172 227 = some (0, 228, 0, 0, [])) (by decide)
                obtain ⟨n96, s228, l96, S228, u228, h⟩ := w_put (k := 60) S211.1 h (by decide +kernel : pins 172 228 = some (23, 231, 13, 60, [])) (by decide)
                obtain ⟨n97, w231, l97, ⟨e231, i231⟩, h⟩ := u_ic h (by decide +kernel : pins 172 231 = some (0, 232, 0, 0, [])) (by decide)
                obtain ⟨n98, l98, h⟩ := v_is h (by decide +kernel : pins 172 232 = some (6, 234, 6, 0, []))
                have h : prun n98 172 234 [(6, .int w231), (3, .int w211), (5, .int w43), (4, .int w40), (2, .int w34), (0, .ref t), (1, .int hh)] [] s228 = some x := h
                have h := prun_lv h (lv' := [(6, .int w231), (2, .int w34), (3, .int w211), (4, .int w40), (5, .int w43), (0, .ref t), (1, .int hh)]) (lvLe.cons (lvLe.cons (lvLe.cons (lvLe.cons (lvLe.cons (lvLe.cons (lvLe.cons lvLe.nil rfl) rfl) rfl) rfl) rfl) rfl) rfl) (by decide : ([6, 3, 5, 4, 2, 0, 1] : List Nat).Nodup) (by decide : ([6, 2, 3, 4, 5, 0, 1] : List Nat).Nodup)
                have yy228 : PS (vw t A s211) (vw t A s228) := by rw [u228]; exact PS.bad e227
                have PX : PS (vw t A σ) (vw t A s228) := ((ps34.tr ps211).tr yy228)
                have PT0 : PS (vw t A s34) (vw t A s228) := (ps211.tr yy228)
                have RG0 : RG (vw t A s228) w231.toInt w211.toInt := by
                  intro g
                  exact absurd (by rw [u228, gI_sc (by decide), e227]; rfl) g
                obtain ⟨m2, c2, σ2, S2, Q2, G2, h⟩ := pc_tk_b _ _ _ x S228.1 ⟨by rw [i231]; decide, hB.of PX, PX.2.2 J, RG0⟩ h
                obtain ⟨n801, l801, h⟩ := u_go h (by decide +kernel : pins 172 377 = some (20, 380, 0, ((385 : Nat) : Int), []))
                have h := prun_lv h (lv' := [(6, .int c2), (2, .int w34), (3, .int w211), (4, .int w40), (5, .int w43), (0, .ref t), (1, .int hh)]) (lvLe.cons (lvLe.cons (lvLe.cons (lvLe.cons (lvLe.cons (lvLe.cons (lvLe.cons lvLe.nil rfl) rfl) rfl) rfl) rfl) rfl) rfl) (by decide : ([6, 2, 3, 4, 5, 0, 1] : List Nat).Nodup) (by decide : ([6, 2, 3, 4, 5, 0, 1] : List Nat).Nodup)
                have PT : PS (vw t A s34) (vw t A σ2) := PT0.tr Q2
                have PE : PS (vw t A σ) (vw t A σ2) := PX.tr Q2
                have F : ∀ j q : Nat, ¬ (59 ≤ j ∧ j ≤ 67) → vw t A σ2 j q = vw t A σ j q := PE.1
                have FI : ∀ j q : Nat, ¬ (59 ≤ j ∧ j ≤ 67) → gI (vw t A σ2) j q = gI (vw t A σ) j q := fun j q hj => by unfold gI; rw [F j q hj]
                obtain ⟨w, y1, y2, y3⟩ := pc_tk_d S2.1 h hh0 (by rw [FI 46 0 (by decide)]; exact HA) (by rw [FI 47 0 (by decide)]; exact HM) (by rw [FI 31 _ (by decide)]; exact hR) (by rw [FI 20 _ (by decide)]; exact hw) (by rw [FI 16 _ (by decide)]; exact hS) (by rw [FI 32 _ (by decide)]; exact hE) (fun k5 g => ⟨(G2 g).1, (G2 g).2.1⟩)
                refine ⟨w, y1, (((S34.tr S211).tr S228).tr S2).tr y2, vw t A σ2, _, _, _, F, y3, by rw [i40]; decide, fun g => ?_⟩
                have g34 := (PT.2.1 g)
                rcases f34 with ⟨_, f⟩ | ⟨_, _, a3, a4, aa, a5, f⟩
                · exact absurd (by rw [f, gI_sc (by decide)]) g34
                have kd0 : w34 = gI (vw t A σ) 57 0 := by rw [a4]; congr 1; show (gI (vw t A σ) 59 0).toInt.toNat = 0; rw [h59]; rfl
                refine ⟨by rw [kd0], by omega, fun k5 => ?_⟩
                have g211 : ¬ gI (vw t A s211) 60 0 = 0 := (yy228.tr Q2).2.1 g
                rcases f211 with ⟨_, f2⟩ | ⟨_, _, b3, b4, ab, b5, f2⟩
                · exact absurd (by rw [f2, gI_sc (by decide)]) g211
                have n1 : w211 = gI (vw t A σ) 57 1 := by
                  rw [b4, f, gI_ne (by decide), gI_sc (by decide)]
                  congr 1
                  show aa.toInt.toNat = 1
                  rw [a5, h59]
                  rfl
                exact ⟨by rw [n1], (G2 g).1, (G2 g).2.2⟩
        · obtain ⟨n99, l99, h⟩ := v_al h (by decide +kernel : pins 172 96 = some (5, 97, 0, 0, [])) (v := t) rfl
          obtain ⟨n100, l100, h⟩ := w_row (k := 64) S34.1 h (by decide +kernel : pins 172 97 = some (22, 100, 13, 64, [])) (by decide)
          obtain ⟨n101, w100, l101, ⟨e100, i100⟩, h⟩ := u_ic h (by decide +kernel : pins 172 100 = some (0, 101, 0, 0, [])) (by decide)
          obtain ⟨n102, l102, h⟩ := v_al h (by decide +kernel : pins 172 101 = some (5, 102, 0, 0, [])) (v := t) rfl
          obtain ⟨n103, w102, l103, ⟨e102, i102⟩, h⟩ := u_ic h (by decide +kernel : pins 172 102 = some (0, 103, 1, 0, [])) (by decide)
          obtain ⟨n104, r103, s103, l104, h103, h⟩ := pinv_call h (by decide +kernel : pins 172 103 = some (36, 106, 168, 0, [2]))
          have h103 : prun n104 168 0 (lv_args 0 [.ref t, .int w102]) [] s34 = some (r103, s103) := h103
          obtain ⟨w103, er103, S103, f103⟩ := take_1 S34.1 h103 e102
          have er103 : r103 = some (.int w103) := er103
          subst er103
          try dsimp only at S103
          try dsimp only at f103
          obtain ⟨ps103, kg103⟩ : PS (vw t A s34) (vw t A s103) ∧ KG (vw t A s34) (vw t A s103) := take_ps (P := True) (f103.imp_right (fun q => ⟨trivial, q.2.2.2.2.imp (fun _ z => z.2)⟩))
          have h : prun n104 172 106 [(5, .int w43), (4, .int w40), (3, .int w38), (2, .int w34), (0, .ref t), (1, .int hh)] [.int w103, .int w100, .ref (A 64)] s103 = some x := h
          obtain ⟨n105, s106, l105, b106, S106, u106, h⟩ := w_iast S103.1 h (by decide +kernel : pins 172 106 = some (28, 107, 0, 0, [])) (by decide)
          obtain ⟨n106, l106, h⟩ := v_al h (by decide +kernel : pins 172 107 = some (5, 108, 0, 0, [])) (v := t) rfl
          obtain ⟨n107, l107, h⟩ := w_row (k := 64) S106.1 h (by decide +kernel : pins 172 108 = some (22, 111, 13, 64, [])) (by decide)
          obtain ⟨n108, w111, l108, ⟨e111, i111⟩, h⟩ := u_ic h (by decide +kernel : pins 172 111 = some (0, 112, 0, 0, [])) (by decide)
          obtain ⟨n109, w112, l109, b112, e112, h⟩ := w_iald S106.1 h (by decide +kernel : pins 172 112 = some (24, 113, 0, 0, [])) (by decide)
          obtain ⟨n110, w113, l110, ⟨e113, i113⟩, h⟩ := u_ic h (by decide +kernel : pins 172 113 = some (0, 114, 1, 0, [])) (by decide)
          obtain ⟨n111, l111, ⟨c114, h⟩ | ⟨c114, h⟩⟩ := u_ic2 h (by decide +kernel : pins 172 114 = some (17, 117, 2, ((127 : Nat) : Int), []))
          · obtain ⟨n112, l112, h⟩ := v_al h (by decide +kernel : pins 172 127 = some (5, 128, 0, 0, [])) (v := t) rfl
            obtain ⟨n113, w128, l113, ⟨e128, i128⟩, h⟩ := u_ic h (by decide +kernel : pins 172 128 = some (0, 129, 0, 0, [])) (by decide)
            obtain ⟨n114, s129, l114, S129, u129, h⟩ := w_put (k := 60) S106.1 h (by decide +kernel : pins 172 129 = some (23, 132, 13, 60, [])) (by decide)
            obtain ⟨n115, l115, h⟩ := v_al h (by decide +kernel : pins 172 132 = some (5, 133, 0, 0, [])) (v := t) rfl
            obtain ⟨n116, w133, l116, e133, h⟩ := w_fi (k := 60) S129.1 h (by decide +kernel : pins 172 133 = some (22, 136, 13, 60, [])) (by decide)
            obtain ⟨n117, l117, ⟨c136, h⟩ | ⟨c136, h⟩⟩ := u_if0 h (by decide +kernel : pins 172 136 = some (16, 139, 0, ((150 : Nat) : Int), []))
            · obtain ⟨n118, l118, h⟩ := v_al h (by decide +kernel : pins 172 150 = some (5, 151, 0, 0, [])) (v := t) rfl
              obtain ⟨n119, w151, l119, ⟨e151, i151⟩, h⟩ := u_ic h (by decide +kernel : pins 172 151 = some (0, 152, 1, 0, [])) (by decide)
              obtain ⟨n120, r152, s152, l120, h152, h⟩ := pinv_call h (by decide +kernel : pins 172 152 = some (36, 155, 168, 0, [2]))
              have h152 : prun n120 168 0 (lv_args 0 [.ref t, .int w151]) [] s129 = some (r152, s152) := h152
              obtain ⟨w152, er152, S152, f152⟩ := take_1 S129.1 h152 e151
              have er152 : r152 = some (.int w152) := er152
              subst er152
              try dsimp only at S152
              try dsimp only at f152
              obtain ⟨ps152, kg152⟩ : PS (vw t A s129) (vw t A s152) ∧ KG (vw t A s129) (vw t A s152) := take_ps (P := True) (f152.imp_right (fun q => ⟨trivial, q.2.2.2.2.imp (fun _ z => z.2)⟩))
              have h : prun n120 172 155 [(5, .int w43), (4, .int w40), (3, .int w38), (2, .int w34), (0, .ref t), (1, .int hh)] [.int w152] s152 = some x := h
              obtain ⟨n121, l121, h⟩ := v_is h (by decide +kernel : pins 172 155 = some (6, 156, 3, 0, []))
              have h : prun n121 172 156 [(3, .int w152), (5, .int w43), (4, .int w40), (2, .int w34), (0, .ref t), (1, .int hh)] [] s152 = some x := h
              obtain ⟨n122, l122, h⟩ := v_il h (by decide +kernel : pins 172 156 = some (3, 157, 3, 0, [])) (v := w152) rfl
              obtain ⟨n123, w157, l123, ⟨e157, i157⟩, h⟩ := u_ic h (by decide +kernel : pins 172 157 = some (0, 159, 8, 0, [])) (by decide)
              obtain ⟨n124, l124, ⟨c159, h⟩ | ⟨c159, h⟩⟩ := u_ic5 h (by decide +kernel : pins 172 159 = some (17, 162, 5, ((167 : Nat) : Int), []))
              · obtain ⟨n125, w167, l125, ⟨e167, i167⟩, h⟩ := u_ic h (by decide +kernel : pins 172 167 = some (0, 168, 0, 0, [])) (by decide)
                obtain ⟨n126, l126, h⟩ := v_is h (by decide +kernel : pins 172 168 = some (6, 170, 6, 0, []))
                have h : prun n126 172 170 [(6, .int w167), (3, .int w152), (5, .int w43), (4, .int w40), (2, .int w34), (0, .ref t), (1, .int hh)] [] s152 = some x := h
                have h := prun_lv h (lv' := [(6, .int w167), (2, .int w34), (3, .int w152), (4, .int w40), (5, .int w43), (0, .ref t), (1, .int hh)]) (lvLe.cons (lvLe.cons (lvLe.cons (lvLe.cons (lvLe.cons (lvLe.cons (lvLe.cons lvLe.nil rfl) rfl) rfl) rfl) rfl) rfl) rfl) (by decide : ([6, 3, 5, 4, 2, 0, 1] : List Nat).Nodup) (by decide : ([6, 2, 3, 4, 5, 0, 1] : List Nat).Nodup)
                have yy106 : PS (vw t A s103) (vw t A s106) := by rw [u106]; exact PS.upr (Or.inl (by decide)) (by decide)
                have yy129 : PS (vw t A s106) (vw t A s129) := by rw [u129]; exact PS.bad e128
                have PX : PS (vw t A σ) (vw t A s152) := ((((ps34.tr ps103).tr yy106).tr yy129).tr ps152)
                have PT0 : PS (vw t A s34) (vw t A s152) := (((ps103.tr yy106).tr yy129).tr ps152)
                obtain ⟨m2, c2, σ2, S2, Q2, h⟩ := pc_tk_a _ _ _ x S152.1 ⟨by rw [i167]; decide, hB.of PX, PX.2.2 J, fun g => by omega⟩ h
                obtain ⟨n801, l801, h⟩ := u_go h (by decide +kernel : pins 172 201 = some (20, 204, 0, ((385 : Nat) : Int), []))
                have h := prun_lv h (lv' := [(6, .int c2), (2, .int w34), (3, .int w152), (4, .int w40), (5, .int w43), (0, .ref t), (1, .int hh)]) (lvLe.cons (lvLe.cons (lvLe.cons (lvLe.cons (lvLe.cons (lvLe.cons (lvLe.cons lvLe.nil rfl) rfl) rfl) rfl) rfl) rfl) rfl) (by decide : ([6, 2, 3, 4, 5, 0, 1] : List Nat).Nodup) (by decide : ([6, 2, 3, 4, 5, 0, 1] : List Nat).Nodup)
                have PT : PS (vw t A s34) (vw t A σ2) := PT0.tr Q2
                have PE : PS (vw t A σ) (vw t A σ2) := PX.tr Q2
                have F : ∀ j q : Nat, ¬ (59 ≤ j ∧ j ≤ 67) → vw t A σ2 j q = vw t A σ j q := PE.1
                have FI : ∀ j q : Nat, ¬ (59 ≤ j ∧ j ≤ 67) → gI (vw t A σ2) j q = gI (vw t A σ) j q := fun j q hj => by unfold gI; rw [F j q hj]
                obtain ⟨w, y1, y2, y3⟩ := pc_tk_d S2.1 h hh0 (by rw [FI 46 0 (by decide)]; exact HA) (by rw [FI 47 0 (by decide)]; exact HM) (by rw [FI 31 _ (by decide)]; exact hR) (by rw [FI 20 _ (by decide)]; exact hw) (by rw [FI 16 _ (by decide)]; exact hS) (by rw [FI 32 _ (by decide)]; exact hE) (fun k5 => by exfalso; omega)
                refine ⟨w, y1, (((((S34.tr S103).tr S106).tr S129).tr S152).tr S2).tr y2, vw t A σ2, _, _, _, F, y3, by rw [i40]; decide, fun g => ?_⟩
                have g34 := (PT.2.1 g)
                rcases f34 with ⟨_, f⟩ | ⟨_, _, a3, a4, aa, a5, f⟩
                · exact absurd (by rw [f, gI_sc (by decide)]) g34
                have kd0 : w34 = gI (vw t A σ) 57 0 := by rw [a4]; congr 1; show (gI (vw t A σ) 59 0).toInt.toNat = 0; rw [h59]; rfl
                exact ⟨by rw [kd0], by omega, fun k5 => by exfalso; omega⟩
              · obtain ⟨n127, l127, h⟩ := v_al h (by decide +kernel : pins 172 162 = some (5, 163, 0, 0, [])) (v := t) rfl
                obtain ⟨n128, w163, l128, ⟨e163, i163⟩, h⟩ := u_ic h (by decide +kernel : pins 172 163 = some (0, 164, 0, 0, [])) (by decide)
                obtain ⟨n129, s164, l129, S164, u164, h⟩ := w_put (k := 60) S152.1 h (by decide +kernel : pins 172 164 = some (23, 167, 13, 60, [])) (by decide)
                obtain ⟨n130, w167, l130, ⟨e167, i167⟩, h⟩ := u_ic h (by decide +kernel : pins 172 167 = some (0, 168, 0, 0, [])) (by decide)
                obtain ⟨n131, l131, h⟩ := v_is h (by decide +kernel : pins 172 168 = some (6, 170, 6, 0, []))
                have h : prun n131 172 170 [(6, .int w167), (3, .int w152), (5, .int w43), (4, .int w40), (2, .int w34), (0, .ref t), (1, .int hh)] [] s164 = some x := h
                have h := prun_lv h (lv' := [(6, .int w167), (2, .int w34), (3, .int w152), (4, .int w40), (5, .int w43), (0, .ref t), (1, .int hh)]) (lvLe.cons (lvLe.cons (lvLe.cons (lvLe.cons (lvLe.cons (lvLe.cons (lvLe.cons lvLe.nil rfl) rfl) rfl) rfl) rfl) rfl) rfl) (by decide : ([6, 3, 5, 4, 2, 0, 1] : List Nat).Nodup) (by decide : ([6, 2, 3, 4, 5, 0, 1] : List Nat).Nodup)
                have yy106 : PS (vw t A s103) (vw t A s106) := by rw [u106]; exact PS.upr (Or.inl (by decide)) (by decide)
                have yy129 : PS (vw t A s106) (vw t A s129) := by rw [u129]; exact PS.bad e128
                have yy164 : PS (vw t A s152) (vw t A s164) := by rw [u164]; exact PS.bad e163
                have PX : PS (vw t A σ) (vw t A s164) := (((((ps34.tr ps103).tr yy106).tr yy129).tr ps152).tr yy164)
                have PT0 : PS (vw t A s34) (vw t A s164) := ((((ps103.tr yy106).tr yy129).tr ps152).tr yy164)
                obtain ⟨m2, c2, σ2, S2, Q2, h⟩ := pc_tk_a _ _ _ x S164.1 ⟨by rw [i167]; decide, hB.of PX, PX.2.2 J, fun g => absurd (by rw [u164, gI_sc (by decide), e163]; rfl) g⟩ h
                obtain ⟨n801, l801, h⟩ := u_go h (by decide +kernel : pins 172 201 = some (20, 204, 0, ((385 : Nat) : Int), []))
                have h := prun_lv h (lv' := [(6, .int c2), (2, .int w34), (3, .int w152), (4, .int w40), (5, .int w43), (0, .ref t), (1, .int hh)]) (lvLe.cons (lvLe.cons (lvLe.cons (lvLe.cons (lvLe.cons (lvLe.cons (lvLe.cons lvLe.nil rfl) rfl) rfl) rfl) rfl) rfl) rfl) (by decide : ([6, 2, 3, 4, 5, 0, 1] : List Nat).Nodup) (by decide : ([6, 2, 3, 4, 5, 0, 1] : List Nat).Nodup)
                have PT : PS (vw t A s34) (vw t A σ2) := PT0.tr Q2
                have PE : PS (vw t A σ) (vw t A σ2) := PX.tr Q2
                have F : ∀ j q : Nat, ¬ (59 ≤ j ∧ j ≤ 67) → vw t A σ2 j q = vw t A σ j q := PE.1
                have FI : ∀ j q : Nat, ¬ (59 ≤ j ∧ j ≤ 67) → gI (vw t A σ2) j q = gI (vw t A σ) j q := fun j q hj => by unfold gI; rw [F j q hj]
                obtain ⟨w, y1, y2, y3⟩ := pc_tk_d S2.1 h hh0 (by rw [FI 46 0 (by decide)]; exact HA) (by rw [FI 47 0 (by decide)]; exact HM) (by rw [FI 31 _ (by decide)]; exact hR) (by rw [FI 20 _ (by decide)]; exact hw) (by rw [FI 16 _ (by decide)]; exact hS) (by rw [FI 32 _ (by decide)]; exact hE) (fun k5 => by exfalso; omega)
                refine ⟨w, y1, ((((((S34.tr S103).tr S106).tr S129).tr S152).tr S164).tr S2).tr y2, vw t A σ2, _, _, _, F, y3, by rw [i40]; decide, fun g => ?_⟩
                have g34 := (PT.2.1 g)
                rcases f34 with ⟨_, f⟩ | ⟨_, _, a3, a4, aa, a5, f⟩
                · exact absurd (by rw [f, gI_sc (by decide)]) g34
                have kd0 : w34 = gI (vw t A σ) 57 0 := by rw [a4]; congr 1; show (gI (vw t A σ) 59 0).toInt.toNat = 0; rw [h59]; rfl
                exact ⟨by rw [kd0], by omega, fun k5 => by exfalso; omega⟩
            · obtain ⟨n132, l132, h⟩ := v_al h (by decide +kernel : pins 172 139 = some (5, 140, 0, 0, [])) (v := t) rfl
              obtain ⟨n133, l133, h⟩ := v_al h (by decide +kernel : pins 172 140 = some (5, 141, 0, 0, [])) (v := t) rfl
              obtain ⟨n134, l134, h⟩ := w_row (k := 62) S129.1 h (by decide +kernel : pins 172 141 = some (22, 144, 13, 62, [])) (by decide)
              obtain ⟨n135, w144, l135, ⟨e144, i144⟩, h⟩ := u_ic h (by decide +kernel : pins 172 144 = some (0, 147, 240, 0, [])) (by decide)
              obtain ⟨n136, r147, s147, l136, h147, h⟩ := pinv_call h (by decide +kernel : pins 172 147 = some (36, 150, 170, 0, [3]))
              have h147 : prun n136 170 0 (lv_args 0 [.ref t, .ref (A 62), .int w144]) [] s129 = some (r147, s147) := h147
              have yy106 : PS (vw t A s103) (vw t A s106) := by rw [u106]; exact PS.upr (Or.inl (by decide)) (by decide)
              have yy129 : PS (vw t A s106) (vw t A s129) := by rw [u129]; exact PS.bad e128
              have PC147 : PS (vw t A σ) (vw t A s129) := (((ps34.tr ps103).tr yy106).tr yy129)
              obtain ⟨er147, S147, f147, z147, g147, J147⟩ := takeWord_ S129.1 h147 (by decide) (by rw [i144]; decide) ((hB.of PC147).2) (PC147.2.2 J)
              have er147 : r147 = none := er147
              subst er147
              try dsimp only at S147
              try dsimp only at f147
              try dsimp only at z147
              try dsimp only at g147
              try dsimp only at J147
              have ps147 : PS (vw t A s129) (vw t A s147) := tw_ps (k := 62) (by decide) f147 g147 J147
              have h : prun n136 172 150 [(5, .int w43), (4, .int w40), (3, .int w38), (2, .int w34), (0, .ref t), (1, .int hh)] [] s147 = some x := h
              obtain ⟨n137, l137, h⟩ := v_al h (by decide +kernel : pins 172 150 = some (5, 151, 0, 0, [])) (v := t) rfl
              obtain ⟨n138, w151, l138, ⟨e151, i151⟩, h⟩ := u_ic h (by decide +kernel : pins 172 151 = some (0, 152, 1, 0, [])) (by decide)
              obtain ⟨n139, r152, s152, l139, h152, h⟩ := pinv_call h (by decide +kernel : pins 172 152 = some (36, 155, 168, 0, [2]))
              have h152 : prun n139 168 0 (lv_args 0 [.ref t, .int w151]) [] s147 = some (r152, s152) := h152
              obtain ⟨w152, er152, S152, f152⟩ := take_1 S147.1 h152 e151
              have er152 : r152 = some (.int w152) := er152
              subst er152
              try dsimp only at S152
              try dsimp only at f152
              obtain ⟨ps152, kg152⟩ : PS (vw t A s147) (vw t A s152) ∧ KG (vw t A s147) (vw t A s152) := take_ps (P := True) (f152.imp_right (fun q => ⟨trivial, q.2.2.2.2.imp (fun _ z => z.2)⟩))
              have h : prun n139 172 155 [(5, .int w43), (4, .int w40), (3, .int w38), (2, .int w34), (0, .ref t), (1, .int hh)] [.int w152] s152 = some x := h
              obtain ⟨n140, l140, h⟩ := v_is h (by decide +kernel : pins 172 155 = some (6, 156, 3, 0, []))
              have h : prun n140 172 156 [(3, .int w152), (5, .int w43), (4, .int w40), (2, .int w34), (0, .ref t), (1, .int hh)] [] s152 = some x := h
              obtain ⟨n141, l141, h⟩ := v_il h (by decide +kernel : pins 172 156 = some (3, 157, 3, 0, [])) (v := w152) rfl
              obtain ⟨n142, w157, l142, ⟨e157, i157⟩, h⟩ := u_ic h (by decide +kernel : pins 172 157 = some (0, 159, 8, 0, [])) (by decide)
              obtain ⟨n143, l143, ⟨c159, h⟩ | ⟨c159, h⟩⟩ := u_ic5 h (by decide +kernel : pins 172 159 = some (17, 162, 5, ((167 : Nat) : Int), []))
              · obtain ⟨n144, w167, l144, ⟨e167, i167⟩, h⟩ := u_ic h (by decide +kernel : pins 172 167 = some (0, 168, 0, 0, [])) (by decide)
                obtain ⟨n145, l145, h⟩ := v_is h (by decide +kernel : pins 172 168 = some (6, 170, 6, 0, []))
                have h : prun n145 172 170 [(6, .int w167), (3, .int w152), (5, .int w43), (4, .int w40), (2, .int w34), (0, .ref t), (1, .int hh)] [] s152 = some x := h
                have h := prun_lv h (lv' := [(6, .int w167), (2, .int w34), (3, .int w152), (4, .int w40), (5, .int w43), (0, .ref t), (1, .int hh)]) (lvLe.cons (lvLe.cons (lvLe.cons (lvLe.cons (lvLe.cons (lvLe.cons (lvLe.cons lvLe.nil rfl) rfl) rfl) rfl) rfl) rfl) rfl) (by decide : ([6, 3, 5, 4, 2, 0, 1] : List Nat).Nodup) (by decide : ([6, 2, 3, 4, 5, 0, 1] : List Nat).Nodup)
                have yy106 : PS (vw t A s103) (vw t A s106) := by rw [u106]; exact PS.upr (Or.inl (by decide)) (by decide)
                have yy129 : PS (vw t A s106) (vw t A s129) := by rw [u129]; exact PS.bad e128
                have PX : PS (vw t A σ) (vw t A s152) := (((((ps34.tr ps103).tr yy106).tr yy129).tr ps147).tr ps152)
                have PT0 : PS (vw t A s34) (vw t A s152) := ((((ps103.tr yy106).tr yy129).tr ps147).tr ps152)
                obtain ⟨m2, c2, σ2, S2, Q2, h⟩ := pc_tk_a _ _ _ x S152.1 ⟨by rw [i167]; decide, hB.of PX, PX.2.2 J, fun g => by omega⟩ h
                obtain ⟨n801, l801, h⟩ := u_go h (by decide +kernel : pins 172 201 = some (20, 204, 0, ((385 : Nat) : Int), []))
                have h := prun_lv h (lv' := [(6, .int c2), (2, .int w34), (3, .int w152), (4, .int w40), (5, .int w43), (0, .ref t), (1, .int hh)]) (lvLe.cons (lvLe.cons (lvLe.cons (lvLe.cons (lvLe.cons (lvLe.cons (lvLe.cons lvLe.nil rfl) rfl) rfl) rfl) rfl) rfl) rfl) (by decide : ([6, 2, 3, 4, 5, 0, 1] : List Nat).Nodup) (by decide : ([6, 2, 3, 4, 5, 0, 1] : List Nat).Nodup)
                have PT : PS (vw t A s34) (vw t A σ2) := PT0.tr Q2
                have PE : PS (vw t A σ) (vw t A σ2) := PX.tr Q2
                have F : ∀ j q : Nat, ¬ (59 ≤ j ∧ j ≤ 67) → vw t A σ2 j q = vw t A σ j q := PE.1
                have FI : ∀ j q : Nat, ¬ (59 ≤ j ∧ j ≤ 67) → gI (vw t A σ2) j q = gI (vw t A σ) j q := fun j q hj => by unfold gI; rw [F j q hj]
                obtain ⟨w, y1, y2, y3⟩ := pc_tk_d S2.1 h hh0 (by rw [FI 46 0 (by decide)]; exact HA) (by rw [FI 47 0 (by decide)]; exact HM) (by rw [FI 31 _ (by decide)]; exact hR) (by rw [FI 20 _ (by decide)]; exact hw) (by rw [FI 16 _ (by decide)]; exact hS) (by rw [FI 32 _ (by decide)]; exact hE) (fun k5 => by exfalso; omega)
                refine ⟨w, y1, ((((((S34.tr S103).tr S106).tr S129).tr S147).tr S152).tr S2).tr y2, vw t A σ2, _, _, _, F, y3, by rw [i40]; decide, fun g => ?_⟩
                have g34 := (PT.2.1 g)
                rcases f34 with ⟨_, f⟩ | ⟨_, _, a3, a4, aa, a5, f⟩
                · exact absurd (by rw [f, gI_sc (by decide)]) g34
                have kd0 : w34 = gI (vw t A σ) 57 0 := by rw [a4]; congr 1; show (gI (vw t A σ) 59 0).toInt.toNat = 0; rw [h59]; rfl
                exact ⟨by rw [kd0], by omega, fun k5 => by exfalso; omega⟩
              · obtain ⟨n146, l146, h⟩ := v_al h (by decide +kernel : pins 172 162 = some (5, 163, 0, 0, [])) (v := t) rfl
                obtain ⟨n147, w163, l147, ⟨e163, i163⟩, h⟩ := u_ic h (by decide +kernel : pins 172 163 = some (0, 164, 0, 0, [])) (by decide)
                obtain ⟨n148, s164, l148, S164, u164, h⟩ := w_put (k := 60) S152.1 h (by decide +kernel : pins 172 164 = some (23, 167, 13, 60, [])) (by decide)
                obtain ⟨n149, w167, l149, ⟨e167, i167⟩, h⟩ := u_ic h (by decide +kernel : pins 172 167 = some (0, 168, 0, 0, [])) (by decide)
                obtain ⟨n150, l150, h⟩ := v_is h (by decide +kernel : pins 172 168 = some (6, 170, 6, 0, []))
                have h : prun n150 172 170 [(6, .int w167), (3, .int w152), (5, .int w43), (4, .int w40), (2, .int w34), (0, .ref t), (1, .int hh)] [] s164 = some x := h
                have h := prun_lv h (lv' := [(6, .int w167), (2, .int w34), (3, .int w152), (4, .int w40), (5, .int w43), (0, .ref t), (1, .int hh)]) (lvLe.cons (lvLe.cons (lvLe.cons (lvLe.cons (lvLe.cons (lvLe.cons (lvLe.cons lvLe.nil rfl) rfl) rfl) rfl) rfl) rfl) rfl) (by decide : ([6, 3, 5, 4, 2, 0, 1] : List Nat).Nodup) (by decide : ([6, 2, 3, 4, 5, 0, 1] : List Nat).Nodup)
                have yy106 : PS (vw t A s103) (vw t A s106) := by rw [u106]; exact PS.upr (Or.inl (by decide)) (by decide)
                have yy129 : PS (vw t A s106) (vw t A s129) := by rw [u129]; exact PS.bad e128
                have yy164 : PS (vw t A s152) (vw t A s164) := by rw [u164]; exact PS.bad e163
                have PX : PS (vw t A σ) (vw t A s164) := ((((((ps34.tr ps103).tr yy106).tr yy129).tr ps147).tr ps152).tr yy164)
                have PT0 : PS (vw t A s34) (vw t A s164) := (((((ps103.tr yy106).tr yy129).tr ps147).tr ps152).tr yy164)
                obtain ⟨m2, c2, σ2, S2, Q2, h⟩ := pc_tk_a _ _ _ x S164.1 ⟨by rw [i167]; decide, hB.of PX, PX.2.2 J, fun g => absurd (by rw [u164, gI_sc (by decide), e163]; rfl) g⟩ h
                obtain ⟨n801, l801, h⟩ := u_go h (by decide +kernel : pins 172 201 = some (20, 204, 0, ((385 : Nat) : Int), []))
                have h := prun_lv h (lv' := [(6, .int c2), (2, .int w34), (3, .int w152), (4, .int w40), (5, .int w43), (0, .ref t), (1, .int hh)]) (lvLe.cons (lvLe.cons (lvLe.cons (lvLe.cons (lvLe.cons (lvLe.cons (lvLe.cons lvLe.nil rfl) rfl) rfl) rfl) rfl) rfl) rfl) (by decide : ([6, 2, 3, 4, 5, 0, 1] : List Nat).Nodup) (by decide : ([6, 2, 3, 4, 5, 0, 1] : List Nat).Nodup)
                have PT : PS (vw t A s34) (vw t A σ2) := PT0.tr Q2
                have PE : PS (vw t A σ) (vw t A σ2) := PX.tr Q2
                have F : ∀ j q : Nat, ¬ (59 ≤ j ∧ j ≤ 67) → vw t A σ2 j q = vw t A σ j q := PE.1
                have FI : ∀ j q : Nat, ¬ (59 ≤ j ∧ j ≤ 67) → gI (vw t A σ2) j q = gI (vw t A σ) j q := fun j q hj => by unfold gI; rw [F j q hj]
                obtain ⟨w, y1, y2, y3⟩ := pc_tk_d S2.1 h hh0 (by rw [FI 46 0 (by decide)]; exact HA) (by rw [FI 47 0 (by decide)]; exact HM) (by rw [FI 31 _ (by decide)]; exact hR) (by rw [FI 20 _ (by decide)]; exact hw) (by rw [FI 16 _ (by decide)]; exact hS) (by rw [FI 32 _ (by decide)]; exact hE) (fun k5 => by exfalso; omega)
                refine ⟨w, y1, (((((((S34.tr S103).tr S106).tr S129).tr S147).tr S152).tr S164).tr S2).tr y2, vw t A σ2, _, _, _, F, y3, by rw [i40]; decide, fun g => ?_⟩
                have g34 := (PT.2.1 g)
                rcases f34 with ⟨_, f⟩ | ⟨_, _, a3, a4, aa, a5, f⟩
                · exact absurd (by rw [f, gI_sc (by decide)]) g34
                have kd0 : w34 = gI (vw t A σ) 57 0 := by rw [a4]; congr 1; show (gI (vw t A σ) 59 0).toInt.toNat = 0; rw [h59]; rfl
                exact ⟨by rw [kd0], by omega, fun k5 => by exfalso; omega⟩
          · obtain ⟨n151, l151, h⟩ := v_al h (by decide +kernel : pins 172 117 = some (5, 118, 0, 0, [])) (v := t) rfl
            obtain ⟨n152, l152, h⟩ := w_row (k := 64) S106.1 h (by decide +kernel : pins 172 118 = some (22, 121, 13, 64, [])) (by decide)
            obtain ⟨n153, w121, l153, ⟨e121, i121⟩, h⟩ := u_ic h (by decide +kernel : pins 172 121 = some (0, 122, 0, 0, [])) (by decide)
            obtain ⟨n154, w122, l154, b122, e122, h⟩ := w_iald S106.1 h (by decide +kernel : pins 172 122 = some (24, 123, 0, 0, [])) (by decide)
            obtain ⟨n155, w123, l155, ⟨e123, i123⟩, h⟩ := u_ic h (by decide +kernel : pins 172 123 = some (0, 124, 2, 0, [])) (by decide)
            obtain ⟨n156, l156, ⟨c124, h⟩ | ⟨c124, h⟩⟩ := u_ic5 h (by decide +kernel : pins 172 124 = some (17, 127, 5, ((132 : Nat) : Int), []))
            · obtain ⟨n157, l157, h⟩ := v_al h (by decide +kernel : pins 172 132 = some (5, 133, 0, 0, [])) (v := t) rfl
              obtain ⟨n158, w133, l158, e133, h⟩ := w_fi (k := 60) S106.1 h (by decide +kernel : pins 172 133 = some (22, 136, 13, 60, [])) (by decide)
              obtain ⟨n159, l159, ⟨c136, h⟩ | ⟨c136, h⟩⟩ := u_if0 h (by decide +kernel : pins 172 136 = some (16, 139, 0, ((150 : Nat) : Int), []))
              · obtain ⟨n160, l160, h⟩ := v_al h (by decide +kernel : pins 172 150 = some (5, 151, 0, 0, [])) (v := t) rfl
                obtain ⟨n161, w151, l161, ⟨e151, i151⟩, h⟩ := u_ic h (by decide +kernel : pins 172 151 = some (0, 152, 1, 0, [])) (by decide)
                obtain ⟨n162, r152, s152, l162, h152, h⟩ := pinv_call h (by decide +kernel : pins 172 152 = some (36, 155, 168, 0, [2]))
                have h152 : prun n162 168 0 (lv_args 0 [.ref t, .int w151]) [] s106 = some (r152, s152) := h152
                obtain ⟨w152, er152, S152, f152⟩ := take_1 S106.1 h152 e151
                have er152 : r152 = some (.int w152) := er152
                subst er152
                try dsimp only at S152
                try dsimp only at f152
                obtain ⟨ps152, kg152⟩ : PS (vw t A s106) (vw t A s152) ∧ KG (vw t A s106) (vw t A s152) := take_ps (P := True) (f152.imp_right (fun q => ⟨trivial, q.2.2.2.2.imp (fun _ z => z.2)⟩))
                have h : prun n162 172 155 [(5, .int w43), (4, .int w40), (3, .int w38), (2, .int w34), (0, .ref t), (1, .int hh)] [.int w152] s152 = some x := h
                obtain ⟨n163, l163, h⟩ := v_is h (by decide +kernel : pins 172 155 = some (6, 156, 3, 0, []))
                have h : prun n163 172 156 [(3, .int w152), (5, .int w43), (4, .int w40), (2, .int w34), (0, .ref t), (1, .int hh)] [] s152 = some x := h
                obtain ⟨n164, l164, h⟩ := v_il h (by decide +kernel : pins 172 156 = some (3, 157, 3, 0, [])) (v := w152) rfl
                obtain ⟨n165, w157, l165, ⟨e157, i157⟩, h⟩ := u_ic h (by decide +kernel : pins 172 157 = some (0, 159, 8, 0, [])) (by decide)
                obtain ⟨n166, l166, ⟨c159, h⟩ | ⟨c159, h⟩⟩ := u_ic5 h (by decide +kernel : pins 172 159 = some (17, 162, 5, ((167 : Nat) : Int), []))
                · obtain ⟨n167, w167, l167, ⟨e167, i167⟩, h⟩ := u_ic h (by decide +kernel : pins 172 167 = some (0, 168, 0, 0, [])) (by decide)
                  obtain ⟨n168, l168, h⟩ := v_is h (by decide +kernel : pins 172 168 = some (6, 170, 6, 0, []))
                  have h : prun n168 172 170 [(6, .int w167), (3, .int w152), (5, .int w43), (4, .int w40), (2, .int w34), (0, .ref t), (1, .int hh)] [] s152 = some x := h
                  have h := prun_lv h (lv' := [(6, .int w167), (2, .int w34), (3, .int w152), (4, .int w40), (5, .int w43), (0, .ref t), (1, .int hh)]) (lvLe.cons (lvLe.cons (lvLe.cons (lvLe.cons (lvLe.cons (lvLe.cons (lvLe.cons lvLe.nil rfl) rfl) rfl) rfl) rfl) rfl) rfl) (by decide : ([6, 3, 5, 4, 2, 0, 1] : List Nat).Nodup) (by decide : ([6, 2, 3, 4, 5, 0, 1] : List Nat).Nodup)
                  have yy106 : PS (vw t A s103) (vw t A s106) := by rw [u106]; exact PS.upr (Or.inl (by decide)) (by decide)
                  have PX : PS (vw t A σ) (vw t A s152) := (((ps34.tr ps103).tr yy106).tr ps152)
                  have PT0 : PS (vw t A s34) (vw t A s152) := ((ps103.tr yy106).tr ps152)
                  obtain ⟨m2, c2, σ2, S2, Q2, h⟩ := pc_tk_a _ _ _ x S152.1 ⟨by rw [i167]; decide, hB.of PX, PX.2.2 J, fun g => by omega⟩ h
                  obtain ⟨n801, l801, h⟩ := u_go h (by decide +kernel : pins 172 201 = some (20, 204, 0, ((385 : Nat) : Int), []))
                  have h := prun_lv h (lv' := [(6, .int c2), (2, .int w34), (3, .int w152), (4, .int w40), (5, .int w43), (0, .ref t), (1, .int hh)]) (lvLe.cons (lvLe.cons (lvLe.cons (lvLe.cons (lvLe.cons (lvLe.cons (lvLe.cons lvLe.nil rfl) rfl) rfl) rfl) rfl) rfl) rfl) (by decide : ([6, 2, 3, 4, 5, 0, 1] : List Nat).Nodup) (by decide : ([6, 2, 3, 4, 5, 0, 1] : List Nat).Nodup)
                  have PT : PS (vw t A s34) (vw t A σ2) := PT0.tr Q2
                  have PE : PS (vw t A σ) (vw t A σ2) := PX.tr Q2
                  have F : ∀ j q : Nat, ¬ (59 ≤ j ∧ j ≤ 67) → vw t A σ2 j q = vw t A σ j q := PE.1
                  have FI : ∀ j q : Nat, ¬ (59 ≤ j ∧ j ≤ 67) → gI (vw t A σ2) j q = gI (vw t A σ) j q := fun j q hj => by unfold gI; rw [F j q hj]
                  obtain ⟨w, y1, y2, y3⟩ := pc_tk_d S2.1 h hh0 (by rw [FI 46 0 (by decide)]; exact HA) (by rw [FI 47 0 (by decide)]; exact HM) (by rw [FI 31 _ (by decide)]; exact hR) (by rw [FI 20 _ (by decide)]; exact hw) (by rw [FI 16 _ (by decide)]; exact hS) (by rw [FI 32 _ (by decide)]; exact hE) (fun k5 => by exfalso; omega)
                  refine ⟨w, y1, ((((S34.tr S103).tr S106).tr S152).tr S2).tr y2, vw t A σ2, _, _, _, F, y3, by rw [i40]; decide, fun g => ?_⟩
                  have g34 := (PT.2.1 g)
                  rcases f34 with ⟨_, f⟩ | ⟨_, _, a3, a4, aa, a5, f⟩
                  · exact absurd (by rw [f, gI_sc (by decide)]) g34
                  have kd0 : w34 = gI (vw t A σ) 57 0 := by rw [a4]; congr 1; show (gI (vw t A σ) 59 0).toInt.toNat = 0; rw [h59]; rfl
                  exact ⟨by rw [kd0], by omega, fun k5 => by exfalso; omega⟩
                · obtain ⟨n169, l169, h⟩ := v_al h (by decide +kernel : pins 172 162 = some (5, 163, 0, 0, [])) (v := t) rfl
                  obtain ⟨n170, w163, l170, ⟨e163, i163⟩, h⟩ := u_ic h (by decide +kernel : pins 172 163 = some (0, 164, 0, 0, [])) (by decide)
                  obtain ⟨n171, s164, l171, S164, u164, h⟩ := w_put (k := 60) S152.1 h (by decide +kernel : pins 172 164 = some (23, 167, 13, 60, [])) (by decide)
                  obtain ⟨n172, w167, l172, ⟨e167, i167⟩, h⟩ := u_ic h (by decide +kernel : pins 172 167 = some (0, 168, 0, 0, [])) (by decide)
                  obtain ⟨n173, l173, h⟩ := v_is h (by decide +kernel : pins 172 168 = some (6, 170, 6, 0, []))
                  have h : prun n173 172 170 [(6, .int w167), (3, .int w152), (5, .int w43), (4, .int w40), (2, .int w34), (0, .ref t), (1, .int hh)] [] s164 = some x := h
                  have h := prun_lv h (lv' := [(6, .int w167), (2, .int w34), (3, .int w152), (4, .int w40), (5, .int w43), (0, .ref t), (1, .int hh)]) (lvLe.cons (lvLe.cons (lvLe.cons (lvLe.cons (lvLe.cons (lvLe.cons (lvLe.cons lvLe.nil rfl) rfl) rfl) rfl) rfl) rfl) rfl) (by decide : ([6, 3, 5, 4, 2, 0, 1] : List Nat).Nodup) (by decide : ([6, 2, 3, 4, 5, 0, 1] : List Nat).Nodup)
                  have yy106 : PS (vw t A s103) (vw t A s106) := by rw [u106]; exact PS.upr (Or.inl (by decide)) (by decide)
                  have yy164 : PS (vw t A s152) (vw t A s164) := by rw [u164]; exact PS.bad e163
                  have PX : PS (vw t A σ) (vw t A s164) := ((((ps34.tr ps103).tr yy106).tr ps152).tr yy164)
                  have PT0 : PS (vw t A s34) (vw t A s164) := (((ps103.tr yy106).tr ps152).tr yy164)
                  obtain ⟨m2, c2, σ2, S2, Q2, h⟩ := pc_tk_a _ _ _ x S164.1 ⟨by rw [i167]; decide, hB.of PX, PX.2.2 J, fun g => absurd (by rw [u164, gI_sc (by decide), e163]; rfl) g⟩ h
                  obtain ⟨n801, l801, h⟩ := u_go h (by decide +kernel : pins 172 201 = some (20, 204, 0, ((385 : Nat) : Int), []))
                  have h := prun_lv h (lv' := [(6, .int c2), (2, .int w34), (3, .int w152), (4, .int w40), (5, .int w43), (0, .ref t), (1, .int hh)]) (lvLe.cons (lvLe.cons (lvLe.cons (lvLe.cons (lvLe.cons (lvLe.cons (lvLe.cons lvLe.nil rfl) rfl) rfl) rfl) rfl) rfl) rfl) (by decide : ([6, 2, 3, 4, 5, 0, 1] : List Nat).Nodup) (by decide : ([6, 2, 3, 4, 5, 0, 1] : List Nat).Nodup)
                  have PT : PS (vw t A s34) (vw t A σ2) := PT0.tr Q2
                  have PE : PS (vw t A σ) (vw t A σ2) := PX.tr Q2
                  have F : ∀ j q : Nat, ¬ (59 ≤ j ∧ j ≤ 67) → vw t A σ2 j q = vw t A σ j q := PE.1
                  have FI : ∀ j q : Nat, ¬ (59 ≤ j ∧ j ≤ 67) → gI (vw t A σ2) j q = gI (vw t A σ) j q := fun j q hj => by unfold gI; rw [F j q hj]
                  obtain ⟨w, y1, y2, y3⟩ := pc_tk_d S2.1 h hh0 (by rw [FI 46 0 (by decide)]; exact HA) (by rw [FI 47 0 (by decide)]; exact HM) (by rw [FI 31 _ (by decide)]; exact hR) (by rw [FI 20 _ (by decide)]; exact hw) (by rw [FI 16 _ (by decide)]; exact hS) (by rw [FI 32 _ (by decide)]; exact hE) (fun k5 => by exfalso; omega)
                  refine ⟨w, y1, (((((S34.tr S103).tr S106).tr S152).tr S164).tr S2).tr y2, vw t A σ2, _, _, _, F, y3, by rw [i40]; decide, fun g => ?_⟩
                  have g34 := (PT.2.1 g)
                  rcases f34 with ⟨_, f⟩ | ⟨_, _, a3, a4, aa, a5, f⟩
                  · exact absurd (by rw [f, gI_sc (by decide)]) g34
                  have kd0 : w34 = gI (vw t A σ) 57 0 := by rw [a4]; congr 1; show (gI (vw t A σ) 59 0).toInt.toNat = 0; rw [h59]; rfl
                  exact ⟨by rw [kd0], by omega, fun k5 => by exfalso; omega⟩
              · obtain ⟨n174, l174, h⟩ := v_al h (by decide +kernel : pins 172 139 = some (5, 140, 0, 0, [])) (v := t) rfl
                obtain ⟨n175, l175, h⟩ := v_al h (by decide +kernel : pins 172 140 = some (5, 141, 0, 0, [])) (v := t) rfl
                obtain ⟨n176, l176, h⟩ := w_row (k := 62) S106.1 h (by decide +kernel : pins 172 141 = some (22, 144, 13, 62, [])) (by decide)
                obtain ⟨n177, w144, l177, ⟨e144, i144⟩, h⟩ := u_ic h (by decide +kernel : pins 172 144 = some (0, 147, 240, 0, [])) (by decide)
                obtain ⟨n178, r147, s147, l178, h147, h⟩ := pinv_call h (by decide +kernel : pins 172 147 = some (36, 150, 170, 0, [3]))
                have h147 : prun n178 170 0 (lv_args 0 [.ref t, .ref (A 62), .int w144]) [] s106 = some (r147, s147) := h147
                have yy106 : PS (vw t A s103) (vw t A s106) := by rw [u106]; exact PS.upr (Or.inl (by decide)) (by decide)
                have PC147 : PS (vw t A σ) (vw t A s106) := ((ps34.tr ps103).tr yy106)
                obtain ⟨er147, S147, f147, z147, g147, J147⟩ := takeWord_ S106.1 h147 (by decide) (by rw [i144]; decide) ((hB.of PC147).2) (PC147.2.2 J)
                have er147 : r147 = none := er147
                subst er147
                try dsimp only at S147
                try dsimp only at f147
                try dsimp only at z147
                try dsimp only at g147
                try dsimp only at J147
                have ps147 : PS (vw t A s106) (vw t A s147) := tw_ps (k := 62) (by decide) f147 g147 J147
                have h : prun n178 172 150 [(5, .int w43), (4, .int w40), (3, .int w38), (2, .int w34), (0, .ref t), (1, .int hh)] [] s147 = some x := h
                obtain ⟨n179, l179, h⟩ := v_al h (by decide +kernel : pins 172 150 = some (5, 151, 0, 0, [])) (v := t) rfl
                obtain ⟨n180, w151, l180, ⟨e151, i151⟩, h⟩ := u_ic h (by decide +kernel : pins 172 151 = some (0, 152, 1, 0, [])) (by decide)
                obtain ⟨n181, r152, s152, l181, h152, h⟩ := pinv_call h (by decide +kernel : pins 172 152 = some (36, 155, 168, 0, [2]))
                have h152 : prun n181 168 0 (lv_args 0 [.ref t, .int w151]) [] s147 = some (r152, s152) := h152
                obtain ⟨w152, er152, S152, f152⟩ := take_1 S147.1 h152 e151
                have er152 : r152 = some (.int w152) := er152
                subst er152
                try dsimp only at S152
                try dsimp only at f152
                obtain ⟨ps152, kg152⟩ : PS (vw t A s147) (vw t A s152) ∧ KG (vw t A s147) (vw t A s152) := take_ps (P := True) (f152.imp_right (fun q => ⟨trivial, q.2.2.2.2.imp (fun _ z => z.2)⟩))
                have h : prun n181 172 155 [(5, .int w43), (4, .int w40), (3, .int w38), (2, .int w34), (0, .ref t), (1, .int hh)] [.int w152] s152 = some x := h
                obtain ⟨n182, l182, h⟩ := v_is h (by decide +kernel : pins 172 155 = some (6, 156, 3, 0, []))
                have h : prun n182 172 156 [(3, .int w152), (5, .int w43), (4, .int w40), (2, .int w34), (0, .ref t), (1, .int hh)] [] s152 = some x := h
                obtain ⟨n183, l183, h⟩ := v_il h (by decide +kernel : pins 172 156 = some (3, 157, 3, 0, [])) (v := w152) rfl
                obtain ⟨n184, w157, l184, ⟨e157, i157⟩, h⟩ := u_ic h (by decide +kernel : pins 172 157 = some (0, 159, 8, 0, [])) (by decide)
                obtain ⟨n185, l185, ⟨c159, h⟩ | ⟨c159, h⟩⟩ := u_ic5 h (by decide +kernel : pins 172 159 = some (17, 162, 5, ((167 : Nat) : Int), []))
                · obtain ⟨n186, w167, l186, ⟨e167, i167⟩, h⟩ := u_ic h (by decide +kernel : pins 172 167 = some (0, 168, 0, 0, [])) (by decide)
                  obtain ⟨n187, l187, h⟩ := v_is h (by decide +kernel : pins 172 168 = some (6, 170, 6, 0, []))
                  have h : prun n187 172 170 [(6, .int w167), (3, .int w152), (5, .int w43), (4, .int w40), (2, .int w34), (0, .ref t), (1, .int hh)] [] s152 = some x := h
                  have h := prun_lv h (lv' := [(6, .int w167), (2, .int w34), (3, .int w152), (4, .int w40), (5, .int w43), (0, .ref t), (1, .int hh)]) (lvLe.cons (lvLe.cons (lvLe.cons (lvLe.cons (lvLe.cons (lvLe.cons (lvLe.cons lvLe.nil rfl) rfl) rfl) rfl) rfl) rfl) rfl) (by decide : ([6, 3, 5, 4, 2, 0, 1] : List Nat).Nodup) (by decide : ([6, 2, 3, 4, 5, 0, 1] : List Nat).Nodup)
                  have yy106 : PS (vw t A s103) (vw t A s106) := by rw [u106]; exact PS.upr (Or.inl (by decide)) (by decide)
                  have PX : PS (vw t A σ) (vw t A s152) := ((((ps34.tr ps103).tr yy106).tr ps147).tr ps152)
                  have PT0 : PS (vw t A s34) (vw t A s152) := (((ps103.tr yy106).tr ps147).tr ps152)
                  obtain ⟨m2, c2, σ2, S2, Q2, h⟩ := pc_tk_a _ _ _ x S152.1 ⟨by rw [i167]; decide, hB.of PX, PX.2.2 J, fun g => by omega⟩ h
                  obtain ⟨n801, l801, h⟩ := u_go h (by decide +kernel : pins 172 201 = some (20, 204, 0, ((385 : Nat) : Int), []))
                  have h := prun_lv h (lv' := [(6, .int c2), (2, .int w34), (3, .int w152), (4, .int w40), (5, .int w43), (0, .ref t), (1, .int hh)]) (lvLe.cons (lvLe.cons (lvLe.cons (lvLe.cons (lvLe.cons (lvLe.cons (lvLe.cons lvLe.nil rfl) rfl) rfl) rfl) rfl) rfl) rfl) (by decide : ([6, 2, 3, 4, 5, 0, 1] : List Nat).Nodup) (by decide : ([6, 2, 3, 4, 5, 0, 1] : List Nat).Nodup)
                  have PT : PS (vw t A s34) (vw t A σ2) := PT0.tr Q2
                  have PE : PS (vw t A σ) (vw t A σ2) := PX.tr Q2
                  have F : ∀ j q : Nat, ¬ (59 ≤ j ∧ j ≤ 67) → vw t A σ2 j q = vw t A σ j q := PE.1
                  have FI : ∀ j q : Nat, ¬ (59 ≤ j ∧ j ≤ 67) → gI (vw t A σ2) j q = gI (vw t A σ) j q := fun j q hj => by unfold gI; rw [F j q hj]
                  obtain ⟨w, y1, y2, y3⟩ := pc_tk_d S2.1 h hh0 (by rw [FI 46 0 (by decide)]; exact HA) (by rw [FI 47 0 (by decide)]; exact HM) (by rw [FI 31 _ (by decide)]; exact hR) (by rw [FI 20 _ (by decide)]; exact hw) (by rw [FI 16 _ (by decide)]; exact hS) (by rw [FI 32 _ (by decide)]; exact hE) (fun k5 => by exfalso; omega)
                  refine ⟨w, y1, (((((S34.tr S103).tr S106).tr S147).tr S152).tr S2).tr y2, vw t A σ2, _, _, _, F, y3, by rw [i40]; decide, fun g => ?_⟩
                  have g34 := (PT.2.1 g)
                  rcases f34 with ⟨_, f⟩ | ⟨_, _, a3, a4, aa, a5, f⟩
                  · exact absurd (by rw [f, gI_sc (by decide)]) g34
                  have kd0 : w34 = gI (vw t A σ) 57 0 := by rw [a4]; congr 1; show (gI (vw t A σ) 59 0).toInt.toNat = 0; rw [h59]; rfl
                  exact ⟨by rw [kd0], by omega, fun k5 => by exfalso; omega⟩
                · obtain ⟨n188, l188, h⟩ := v_al h (by decide +kernel : pins 172 162 = some (5, 163, 0, 0, [])) (v := t) rfl
                  obtain ⟨n189, w163, l189, ⟨e163, i163⟩, h⟩ := u_ic h (by decide +kernel : pins 172 163 = some (0, 164, 0, 0, [])) (by decide)
                  obtain ⟨n190, s164, l190, S164, u164, h⟩ := w_put (k := 60) S152.1 h (by decide +kernel : pins 172 164 = some (23, 167, 13, 60, [])) (by decide)
                  obtain ⟨n191, w167, l191, ⟨e167, i167⟩, h⟩ := u_ic h (by decide +kernel : pins 172 167 = some (0, 168, 0, 0, [])) (by decide)
                  obtain ⟨n192, l192, h⟩ := v_is h (by decide +kernel : pins 172 168 = some (6, 170, 6, 0, []))
                  have h : prun n192 172 170 [(6, .int w167), (3, .int w152), (5, .int w43), (4, .int w40), (2, .int w34), (0, .ref t), (1, .int hh)] [] s164 = some x := h
                  have h := prun_lv h (lv' := [(6, .int w167), (2, .int w34), (3, .int w152), (4, .int w40), (5, .int w43), (0, .ref t), (1, .int hh)]) (lvLe.cons (lvLe.cons (lvLe.cons (lvLe.cons (lvLe.cons (lvLe.cons (lvLe.cons lvLe.nil rfl) rfl) rfl) rfl) rfl) rfl) rfl) (by decide : ([6, 3, 5, 4, 2, 0, 1] : List Nat).Nodup) (by decide : ([6, 2, 3, 4, 5, 0, 1] : List Nat).Nodup)
                  have yy106 : PS (vw t A s103) (vw t A s106) := by rw [u106]; exact PS.upr (Or.inl (by decide)) (by decide)
                  have yy164 : PS (vw t A s152) (vw t A s164) := by rw [u164]; exact PS.bad e163
                  have PX : PS (vw t A σ) (vw t A s164) := (((((ps34.tr ps103).tr yy106).tr ps147).tr ps152).tr yy164)
                  have PT0 : PS (vw t A s34) (vw t A s164) := ((((ps103.tr yy106).tr ps147).tr ps152).tr yy164)
                  obtain ⟨m2, c2, σ2, S2, Q2, h⟩ := pc_tk_a _ _ _ x S164.1 ⟨by rw [i167]; decide, hB.of PX, PX.2.2 J, fun g => absurd (by rw [u164, gI_sc (by decide), e163]; rfl) g⟩ h
                  obtain ⟨n801, l801, h⟩ := u_go h (by decide +kernel : pins 172 201 = some (20, 204, 0, ((385 : Nat) : Int), []))
                  have h := prun_lv h (lv' := [(6, .int c2), (2, .int w34), (3, .int w152), (4, .int w40), (5, .int w43), (0, .ref t), (1, .int hh)]) (lvLe.cons (lvLe.cons (lvLe.cons (lvLe.cons (lvLe.cons (lvLe.cons (lvLe.cons lvLe.nil rfl) rfl) rfl) rfl) rfl) rfl) rfl) (by decide : ([6, 2, 3, 4, 5, 0, 1] : List Nat).Nodup) (by decide : ([6, 2, 3, 4, 5, 0, 1] : List Nat).Nodup)
                  have PT : PS (vw t A s34) (vw t A σ2) := PT0.tr Q2
                  have PE : PS (vw t A σ) (vw t A σ2) := PX.tr Q2
                  have F : ∀ j q : Nat, ¬ (59 ≤ j ∧ j ≤ 67) → vw t A σ2 j q = vw t A σ j q := PE.1
                  have FI : ∀ j q : Nat, ¬ (59 ≤ j ∧ j ≤ 67) → gI (vw t A σ2) j q = gI (vw t A σ) j q := fun j q hj => by unfold gI; rw [F j q hj]
                  obtain ⟨w, y1, y2, y3⟩ := pc_tk_d S2.1 h hh0 (by rw [FI 46 0 (by decide)]; exact HA) (by rw [FI 47 0 (by decide)]; exact HM) (by rw [FI 31 _ (by decide)]; exact hR) (by rw [FI 20 _ (by decide)]; exact hw) (by rw [FI 16 _ (by decide)]; exact hS) (by rw [FI 32 _ (by decide)]; exact hE) (fun k5 => by exfalso; omega)
                  refine ⟨w, y1, ((((((S34.tr S103).tr S106).tr S147).tr S152).tr S164).tr S2).tr y2, vw t A σ2, _, _, _, F, y3, by rw [i40]; decide, fun g => ?_⟩
                  have g34 := (PT.2.1 g)
                  rcases f34 with ⟨_, f⟩ | ⟨_, _, a3, a4, aa, a5, f⟩
                  · exact absurd (by rw [f, gI_sc (by decide)]) g34
                  have kd0 : w34 = gI (vw t A σ) 57 0 := by rw [a4]; congr 1; show (gI (vw t A σ) 59 0).toInt.toNat = 0; rw [h59]; rfl
                  exact ⟨by rw [kd0], by omega, fun k5 => by exfalso; omega⟩
            · obtain ⟨n193, l193, h⟩ := v_al h (by decide +kernel : pins 172 127 = some (5, 128, 0, 0, [])) (v := t) rfl
              obtain ⟨n194, w128, l194, ⟨e128, i128⟩, h⟩ := u_ic h (by decide +kernel : pins 172 128 = some (0, 129, 0, 0, [])) (by decide)
              obtain ⟨n195, s129, l195, S129, u129, h⟩ := w_put (k := 60) S106.1 h (by decide +kernel : pins 172 129 = some (23, 132, 13, 60, [])) (by decide)
              obtain ⟨n196, l196, h⟩ := v_al h (by decide +kernel : pins 172 132 = some (5, 133, 0, 0, [])) (v := t) rfl
              obtain ⟨n197, w133, l197, e133, h⟩ := w_fi (k := 60) S129.1 h (by decide +kernel : pins 172 133 = some (22, 136, 13, 60, [])) (by decide)
              obtain ⟨n198, l198, ⟨c136, h⟩ | ⟨c136, h⟩⟩ := u_if0 h (by decide +kernel : pins 172 136 = some (16, 139, 0, ((150 : Nat) : Int), []))
              · obtain ⟨n199, l199, h⟩ := v_al h (by decide +kernel : pins 172 150 = some (5, 151, 0, 0, [])) (v := t) rfl
                obtain ⟨n200, w151, l200, ⟨e151, i151⟩, h⟩ := u_ic h (by decide +kernel : pins 172 151 = some (0, 152, 1, 0, [])) (by decide)
                obtain ⟨n201, r152, s152, l201, h152, h⟩ := pinv_call h (by decide +kernel : pins 172 152 = some (36, 155, 168, 0, [2]))
                have h152 : prun n201 168 0 (lv_args 0 [.ref t, .int w151]) [] s129 = some (r152, s152) := h152
                obtain ⟨w152, er152, S152, f152⟩ := take_1 S129.1 h152 e151
                have er152 : r152 = some (.int w152) := er152
                subst er152
                try dsimp only at S152
                try dsimp only at f152
                obtain ⟨ps152, kg152⟩ : PS (vw t A s129) (vw t A s152) ∧ KG (vw t A s129) (vw t A s152) := take_ps (P := True) (f152.imp_right (fun q => ⟨trivial, q.2.2.2.2.imp (fun _ z => z.2)⟩))
                have h : prun n201 172 155 [(5, .int w43), (4, .int w40), (3, .int w38), (2, .int w34), (0, .ref t), (1, .int hh)] [.int w152] s152 = some x := h
                obtain ⟨n202, l202, h⟩ := v_is h (by decide +kernel : pins 172 155 = some (6, 156, 3, 0, []))
                have h : prun n202 172 156 [(3, .int w152), (5, .int w43), (4, .int w40), (2, .int w34), (0, .ref t), (1, .int hh)] [] s152 = some x := h
                obtain ⟨n203, l203, h⟩ := v_il h (by decide +kernel : pins 172 156 = some (3, 157, 3, 0, [])) (v := w152) rfl
                obtain ⟨n204, w157, l204, ⟨e157, i157⟩, h⟩ := u_ic h (by decide +kernel : pins 172 157 = some (0, 159, 8, 0, [])) (by decide)
                obtain ⟨n205, l205, ⟨c159, h⟩ | ⟨c159, h⟩⟩ := u_ic5 h (by decide +kernel : pins 172 159 = some (17, 162, 5, ((167 : Nat) : Int), []))
                · obtain ⟨n206, w167, l206, ⟨e167, i167⟩, h⟩ := u_ic h (by decide +kernel : pins 172 167 = some (0, 168, 0, 0, [])) (by decide)
                  obtain ⟨n207, l207, h⟩ := v_is h (by decide +kernel : pins 172 168 = some (6, 170, 6, 0, []))
                  have h : prun n207 172 170 [(6, .int w167), (3, .int w152), (5, .int w43), (4, .int w40), (2, .int w34), (0, .ref t), (1, .int hh)] [] s152 = some x := h
                  have h := prun_lv h (lv' := [(6, .int w167), (2, .int w34), (3, .int w152), (4, .int w40), (5, .int w43), (0, .ref t), (1, .int hh)]) (lvLe.cons (lvLe.cons (lvLe.cons (lvLe.cons (lvLe.cons (lvLe.cons (lvLe.cons lvLe.nil rfl) rfl) rfl) rfl) rfl) rfl) rfl) (by decide : ([6, 3, 5, 4, 2, 0, 1] : List Nat).Nodup) (by decide : ([6, 2, 3, 4, 5, 0, 1] : List Nat).Nodup)
                  have yy106 : PS (vw t A s103) (vw t A s106) := by rw [u106]; exact PS.upr (Or.inl (by decide)) (by decide)
                  have yy129 : PS (vw t A s106) (vw t A s129) := by rw [u129]; exact PS.bad e128
                  have PX : PS (vw t A σ) (vw t A s152) := ((((ps34.tr ps103).tr yy106).tr yy129).tr ps152)
                  have PT0 : PS (vw t A s34) (vw t A s152) := (((ps103.tr yy106).tr yy129).tr ps152)
                  obtain ⟨m2, c2, σ2, S2, Q2, h⟩ := pc_tk_a _ _ _ x S152.1 ⟨by rw [i167]; decide, hB.of PX, PX.2.2 J, fun g => by omega⟩ h
                  obtain ⟨n801, l801, h⟩ := u_go h (by decide +kernel : pins 172 201 = some (20, 204, 0, ((385 : Nat) : Int), []))
                  have h := prun_lv h (lv' := [(6, .int c2), (2, .int w34), (3, .int w152), (4, .int w40), (5, .int w43), (0, .ref t), (1, .int hh)]) (lvLe.cons (lvLe.cons (lvLe.cons (lvLe.cons (lvLe.cons (lvLe.cons (lvLe.cons lvLe.nil rfl) rfl) rfl) rfl) rfl) rfl) rfl) (by decide : ([6, 2, 3, 4, 5, 0, 1] : List Nat).Nodup) (by decide : ([6, 2, 3, 4, 5, 0, 1] : List Nat).Nodup)
                  have PT : PS (vw t A s34) (vw t A σ2) := PT0.tr Q2
                  have PE : PS (vw t A σ) (vw t A σ2) := PX.tr Q2
                  have F : ∀ j q : Nat, ¬ (59 ≤ j ∧ j ≤ 67) → vw t A σ2 j q = vw t A σ j q := PE.1
                  have FI : ∀ j q : Nat, ¬ (59 ≤ j ∧ j ≤ 67) → gI (vw t A σ2) j q = gI (vw t A σ) j q := fun j q hj => by unfold gI; rw [F j q hj]
                  obtain ⟨w, y1, y2, y3⟩ := pc_tk_d S2.1 h hh0 (by rw [FI 46 0 (by decide)]; exact HA) (by rw [FI 47 0 (by decide)]; exact HM) (by rw [FI 31 _ (by decide)]; exact hR) (by rw [FI 20 _ (by decide)]; exact hw) (by rw [FI 16 _ (by decide)]; exact hS) (by rw [FI 32 _ (by decide)]; exact hE) (fun k5 => by exfalso; omega)
                  refine ⟨w, y1, (((((S34.tr S103).tr S106).tr S129).tr S152).tr S2).tr y2, vw t A σ2, _, _, _, F, y3, by rw [i40]; decide, fun g => ?_⟩
                  have g34 := (PT.2.1 g)
                  rcases f34 with ⟨_, f⟩ | ⟨_, _, a3, a4, aa, a5, f⟩
                  · exact absurd (by rw [f, gI_sc (by decide)]) g34
                  have kd0 : w34 = gI (vw t A σ) 57 0 := by rw [a4]; congr 1; show (gI (vw t A σ) 59 0).toInt.toNat = 0; rw [h59]; rfl
                  exact ⟨by rw [kd0], by omega, fun k5 => by exfalso; omega⟩
                · obtain ⟨n208, l208, h⟩ := v_al h (by decide +kernel : pins 172 162 = some (5, 163, 0, 0, [])) (v := t) rfl
                  obtain ⟨n209, w163, l209, ⟨e163, i163⟩, h⟩ := u_ic h (by decide +kernel : pins 172 163 = some (0, 164, 0, 0, [])) (by decide)
                  obtain ⟨n210, s164, l210, S164, u164, h⟩ := w_put (k := 60) S152.1 h (by decide +kernel : pins 172 164 = some (23, 167, 13, 60, [])) (by decide)
                  obtain ⟨n211, w167, l211, ⟨e167, i167⟩, h⟩ := u_ic h (by decide +kernel : pins 172 167 = some (0, 168, 0, 0, [])) (by decide)
                  obtain ⟨n212, l212, h⟩ := v_is h (by decide +kernel : pins 172 168 = some (6, 170, 6, 0, []))
                  have h : prun n212 172 170 [(6, .int w167), (3, .int w152), (5, .int w43), (4, .int w40), (2, .int w34), (0, .ref t), (1, .int hh)] [] s164 = some x := h
                  have h := prun_lv h (lv' := [(6, .int w167), (2, .int w34), (3, .int w152), (4, .int w40), (5, .int w43), (0, .ref t), (1, .int hh)]) (lvLe.cons (lvLe.cons (lvLe.cons (lvLe.cons (lvLe.cons (lvLe.cons (lvLe.cons lvLe.nil rfl) rfl) rfl) rfl) rfl) rfl) rfl) (by decide : ([6, 3, 5, 4, 2, 0, 1] : List Nat).Nodup) (by decide : ([6, 2, 3, 4, 5, 0, 1] : List Nat).Nodup)
                  have yy106 : PS (vw t A s103) (vw t A s106) := by rw [u106]; exact PS.upr (Or.inl (by decide)) (by decide)
                  have yy129 : PS (vw t A s106) (vw t A s129) := by rw [u129]; exact PS.bad e128
                  have yy164 : PS (vw t A s152) (vw t A s164) := by rw [u164]; exact PS.bad e163
                  have PX : PS (vw t A σ) (vw t A s164) := (((((ps34.tr ps103).tr yy106).tr yy129).tr ps152).tr yy164)
                  have PT0 : PS (vw t A s34) (vw t A s164) := ((((ps103.tr yy106).tr yy129).tr ps152).tr yy164)
                  obtain ⟨m2, c2, σ2, S2, Q2, h⟩ := pc_tk_a _ _ _ x S164.1 ⟨by rw [i167]; decide, hB.of PX, PX.2.2 J, fun g => absurd (by rw [u164, gI_sc (by decide), e163]; rfl) g⟩ h
                  obtain ⟨n801, l801, h⟩ := u_go h (by decide +kernel : pins 172 201 = some (20, 204, 0, ((385 : Nat) : Int), []))
                  have h := prun_lv h (lv' := [(6, .int c2), (2, .int w34), (3, .int w152), (4, .int w40), (5, .int w43), (0, .ref t), (1, .int hh)]) (lvLe.cons (lvLe.cons (lvLe.cons (lvLe.cons (lvLe.cons (lvLe.cons (lvLe.cons lvLe.nil rfl) rfl) rfl) rfl) rfl) rfl) rfl) (by decide : ([6, 2, 3, 4, 5, 0, 1] : List Nat).Nodup) (by decide : ([6, 2, 3, 4, 5, 0, 1] : List Nat).Nodup)
                  have PT : PS (vw t A s34) (vw t A σ2) := PT0.tr Q2
                  have PE : PS (vw t A σ) (vw t A σ2) := PX.tr Q2
                  have F : ∀ j q : Nat, ¬ (59 ≤ j ∧ j ≤ 67) → vw t A σ2 j q = vw t A σ j q := PE.1
                  have FI : ∀ j q : Nat, ¬ (59 ≤ j ∧ j ≤ 67) → gI (vw t A σ2) j q = gI (vw t A σ) j q := fun j q hj => by unfold gI; rw [F j q hj]
                  obtain ⟨w, y1, y2, y3⟩ := pc_tk_d S2.1 h hh0 (by rw [FI 46 0 (by decide)]; exact HA) (by rw [FI 47 0 (by decide)]; exact HM) (by rw [FI 31 _ (by decide)]; exact hR) (by rw [FI 20 _ (by decide)]; exact hw) (by rw [FI 16 _ (by decide)]; exact hS) (by rw [FI 32 _ (by decide)]; exact hE) (fun k5 => by exfalso; omega)
                  refine ⟨w, y1, ((((((S34.tr S103).tr S106).tr S129).tr S152).tr S164).tr S2).tr y2, vw t A σ2, _, _, _, F, y3, by rw [i40]; decide, fun g => ?_⟩
                  have g34 := (PT.2.1 g)
                  rcases f34 with ⟨_, f⟩ | ⟨_, _, a3, a4, aa, a5, f⟩
                  · exact absurd (by rw [f, gI_sc (by decide)]) g34
                  have kd0 : w34 = gI (vw t A σ) 57 0 := by rw [a4]; congr 1; show (gI (vw t A σ) 59 0).toInt.toNat = 0; rw [h59]; rfl
                  exact ⟨by rw [kd0], by omega, fun k5 => by exfalso; omega⟩
              · obtain ⟨n213, l213, h⟩ := v_al h (by decide +kernel : pins 172 139 = some (5, 140, 0, 0, [])) (v := t) rfl
                obtain ⟨n214, l214, h⟩ := v_al h (by decide +kernel : pins 172 140 = some (5, 141, 0, 0, [])) (v := t) rfl
                obtain ⟨n215, l215, h⟩ := w_row (k := 62) S129.1 h (by decide +kernel : pins 172 141 = some (22, 144, 13, 62, [])) (by decide)
                obtain ⟨n216, w144, l216, ⟨e144, i144⟩, h⟩ := u_ic h (by decide +kernel : pins 172 144 = some (0, 147, 240, 0, [])) (by decide)
                obtain ⟨n217, r147, s147, l217, h147, h⟩ := pinv_call h (by decide +kernel : pins 172 147 = some (36, 150, 170, 0, [3]))
                have h147 : prun n217 170 0 (lv_args 0 [.ref t, .ref (A 62), .int w144]) [] s129 = some (r147, s147) := h147
                have yy106 : PS (vw t A s103) (vw t A s106) := by rw [u106]; exact PS.upr (Or.inl (by decide)) (by decide)
                have yy129 : PS (vw t A s106) (vw t A s129) := by rw [u129]; exact PS.bad e128
                have PC147 : PS (vw t A σ) (vw t A s129) := (((ps34.tr ps103).tr yy106).tr yy129)
                obtain ⟨er147, S147, f147, z147, g147, J147⟩ := takeWord_ S129.1 h147 (by decide) (by rw [i144]; decide) ((hB.of PC147).2) (PC147.2.2 J)
                have er147 : r147 = none := er147
                subst er147
                try dsimp only at S147
                try dsimp only at f147
                try dsimp only at z147
                try dsimp only at g147
                try dsimp only at J147
                have ps147 : PS (vw t A s129) (vw t A s147) := tw_ps (k := 62) (by decide) f147 g147 J147
                have h : prun n217 172 150 [(5, .int w43), (4, .int w40), (3, .int w38), (2, .int w34), (0, .ref t), (1, .int hh)] [] s147 = some x := h
                obtain ⟨n218, l218, h⟩ := v_al h (by decide +kernel : pins 172 150 = some (5, 151, 0, 0, [])) (v := t) rfl
                obtain ⟨n219, w151, l219, ⟨e151, i151⟩, h⟩ := u_ic h (by decide +kernel : pins 172 151 = some (0, 152, 1, 0, [])) (by decide)
                obtain ⟨n220, r152, s152, l220, h152, h⟩ := pinv_call h (by decide +kernel : pins 172 152 = some (36, 155, 168, 0, [2]))
                have h152 : prun n220 168 0 (lv_args 0 [.ref t, .int w151]) [] s147 = some (r152, s152) := h152
                obtain ⟨w152, er152, S152, f152⟩ := take_1 S147.1 h152 e151
                have er152 : r152 = some (.int w152) := er152
                subst er152
                try dsimp only at S152
                try dsimp only at f152
                obtain ⟨ps152, kg152⟩ : PS (vw t A s147) (vw t A s152) ∧ KG (vw t A s147) (vw t A s152) := take_ps (P := True) (f152.imp_right (fun q => ⟨trivial, q.2.2.2.2.imp (fun _ z => z.2)⟩))
                have h : prun n220 172 155 [(5, .int w43), (4, .int w40), (3, .int w38), (2, .int w34), (0, .ref t), (1, .int hh)] [.int w152] s152 = some x := h
                obtain ⟨n221, l221, h⟩ := v_is h (by decide +kernel : pins 172 155 = some (6, 156, 3, 0, []))
                have h : prun n221 172 156 [(3, .int w152), (5, .int w43), (4, .int w40), (2, .int w34), (0, .ref t), (1, .int hh)] [] s152 = some x := h
                obtain ⟨n222, l222, h⟩ := v_il h (by decide +kernel : pins 172 156 = some (3, 157, 3, 0, [])) (v := w152) rfl
                obtain ⟨n223, w157, l223, ⟨e157, i157⟩, h⟩ := u_ic h (by decide +kernel : pins 172 157 = some (0, 159, 8, 0, [])) (by decide)
                obtain ⟨n224, l224, ⟨c159, h⟩ | ⟨c159, h⟩⟩ := u_ic5 h (by decide +kernel : pins 172 159 = some (17, 162, 5, ((167 : Nat) : Int), []))
                · obtain ⟨n225, w167, l225, ⟨e167, i167⟩, h⟩ := u_ic h (by decide +kernel : pins 172 167 = some (0, 168, 0, 0, [])) (by decide)
                  obtain ⟨n226, l226, h⟩ := v_is h (by decide +kernel : pins 172 168 = some (6, 170, 6, 0, []))
                  have h : prun n226 172 170 [(6, .int w167), (3, .int w152), (5, .int w43), (4, .int w40), (2, .int w34), (0, .ref t), (1, .int hh)] [] s152 = some x := h
                  have h := prun_lv h (lv' := [(6, .int w167), (2, .int w34), (3, .int w152), (4, .int w40), (5, .int w43), (0, .ref t), (1, .int hh)]) (lvLe.cons (lvLe.cons (lvLe.cons (lvLe.cons (lvLe.cons (lvLe.cons (lvLe.cons lvLe.nil rfl) rfl) rfl) rfl) rfl) rfl) rfl) (by decide : ([6, 3, 5, 4, 2, 0, 1] : List Nat).Nodup) (by decide : ([6, 2, 3, 4, 5, 0, 1] : List Nat).Nodup)
                  have yy106 : PS (vw t A s103) (vw t A s106) := by rw [u106]; exact PS.upr (Or.inl (by decide)) (by decide)
                  have yy129 : PS (vw t A s106) (vw t A s129) := by rw [u129]; exact PS.bad e128
                  have PX : PS (vw t A σ) (vw t A s152) := (((((ps34.tr ps103).tr yy106).tr yy129).tr ps147).tr ps152)
                  have PT0 : PS (vw t A s34) (vw t A s152) := ((((ps103.tr yy106).tr yy129).tr ps147).tr ps152)
                  obtain ⟨m2, c2, σ2, S2, Q2, h⟩ := pc_tk_a _ _ _ x S152.1 ⟨by rw [i167]; decide, hB.of PX, PX.2.2 J, fun g => by omega⟩ h
                  obtain ⟨n801, l801, h⟩ := u_go h (by decide +kernel : pins 172 201 = some (20, 204, 0, ((385 : Nat) : Int), []))
                  have h := prun_lv h (lv' := [(6, .int c2), (2, .int w34), (3, .int w152), (4, .int w40), (5, .int w43), (0, .ref t), (1, .int hh)]) (lvLe.cons (lvLe.cons (lvLe.cons (lvLe.cons (lvLe.cons (lvLe.cons (lvLe.cons lvLe.nil rfl) rfl) rfl) rfl) rfl) rfl) rfl) (by decide : ([6, 2, 3, 4, 5, 0, 1] : List Nat).Nodup) (by decide : ([6, 2, 3, 4, 5, 0, 1] : List Nat).Nodup)
                  have PT : PS (vw t A s34) (vw t A σ2) := PT0.tr Q2
                  have PE : PS (vw t A σ) (vw t A σ2) := PX.tr Q2
                  have F : ∀ j q : Nat, ¬ (59 ≤ j ∧ j ≤ 67) → vw t A σ2 j q = vw t A σ j q := PE.1
                  have FI : ∀ j q : Nat, ¬ (59 ≤ j ∧ j ≤ 67) → gI (vw t A σ2) j q = gI (vw t A σ) j q := fun j q hj => by unfold gI; rw [F j q hj]
                  obtain ⟨w, y1, y2, y3⟩ := pc_tk_d S2.1 h hh0 (by rw [FI 46 0 (by decide)]; exact HA) (by rw [FI 47 0 (by decide)]; exact HM) (by rw [FI 31 _ (by decide)]; exact hR) (by rw [FI 20 _ (by decide)]; exact hw) (by rw [FI 16 _ (by decide)]; exact hS) (by rw [FI 32 _ (by decide)]; exact hE) (fun k5 => by exfalso; omega)
                  refine ⟨w, y1, ((((((S34.tr S103).tr S106).tr S129).tr S147).tr S152).tr S2).tr y2, vw t A σ2, _, _, _, F, y3, by rw [i40]; decide, fun g => ?_⟩
                  have g34 := (PT.2.1 g)
                  rcases f34 with ⟨_, f⟩ | ⟨_, _, a3, a4, aa, a5, f⟩
                  · exact absurd (by rw [f, gI_sc (by decide)]) g34
                  have kd0 : w34 = gI (vw t A σ) 57 0 := by rw [a4]; congr 1; show (gI (vw t A σ) 59 0).toInt.toNat = 0; rw [h59]; rfl
                  exact ⟨by rw [kd0], by omega, fun k5 => by exfalso; omega⟩
                · obtain ⟨n227, l227, h⟩ := v_al h (by decide +kernel : pins 172 162 = some (5, 163, 0, 0, [])) (v := t) rfl
                  obtain ⟨n228, w163, l228, ⟨e163, i163⟩, h⟩ := u_ic h (by decide +kernel : pins 172 163 = some (0, 164, 0, 0, [])) (by decide)
                  obtain ⟨n229, s164, l229, S164, u164, h⟩ := w_put (k := 60) S152.1 h (by decide +kernel : pins 172 164 = some (23, 167, 13, 60, [])) (by decide)
                  obtain ⟨n230, w167, l230, ⟨e167, i167⟩, h⟩ := u_ic h (by decide +kernel : pins 172 167 = some (0, 168, 0, 0, [])) (by decide)
                  obtain ⟨n231, l231, h⟩ := v_is h (by decide +kernel : pins 172 168 = some (6, 170, 6, 0, []))
                  have h : prun n231 172 170 [(6, .int w167), (3, .int w152), (5, .int w43), (4, .int w40), (2, .int w34), (0, .ref t), (1, .int hh)] [] s164 = some x := h
                  have h := prun_lv h (lv' := [(6, .int w167), (2, .int w34), (3, .int w152), (4, .int w40), (5, .int w43), (0, .ref t), (1, .int hh)]) (lvLe.cons (lvLe.cons (lvLe.cons (lvLe.cons (lvLe.cons (lvLe.cons (lvLe.cons lvLe.nil rfl) rfl) rfl) rfl) rfl) rfl) rfl) (by decide : ([6, 3, 5, 4, 2, 0, 1] : List Nat).Nodup) (by decide : ([6, 2, 3, 4, 5, 0, 1] : List Nat).Nodup)
                  have yy106 : PS (vw t A s103) (vw t A s106) := by rw [u106]; exact PS.upr (Or.inl (by decide)) (by decide)
                  have yy129 : PS (vw t A s106) (vw t A s129) := by rw [u129]; exact PS.bad e128
                  have yy164 : PS (vw t A s152) (vw t A s164) := by rw [u164]; exact PS.bad e163
                  have PX : PS (vw t A σ) (vw t A s164) := ((((((ps34.tr ps103).tr yy106).tr yy129).tr ps147).tr ps152).tr yy164)
                  have PT0 : PS (vw t A s34) (vw t A s164) := (((((ps103.tr yy106).tr yy129).tr ps147).tr ps152).tr yy164)
                  obtain ⟨m2, c2, σ2, S2, Q2, h⟩ := pc_tk_a _ _ _ x S164.1 ⟨by rw [i167]; decide, hB.of PX, PX.2.2 J, fun g => absurd (by rw [u164, gI_sc (by decide), e163]; rfl) g⟩ h
                  obtain ⟨n801, l801, h⟩ := u_go h (by decide +kernel : pins 172 201 = some (20, 204, 0, ((385 : Nat) : Int), []))
                  have h := prun_lv h (lv' := [(6, .int c2), (2, .int w34), (3, .int w152), (4, .int w40), (5, .int w43), (0, .ref t), (1, .int hh)]) (lvLe.cons (lvLe.cons (lvLe.cons (lvLe.cons (lvLe.cons (lvLe.cons (lvLe.cons lvLe.nil rfl) rfl) rfl) rfl) rfl) rfl) rfl) (by decide : ([6, 2, 3, 4, 5, 0, 1] : List Nat).Nodup) (by decide : ([6, 2, 3, 4, 5, 0, 1] : List Nat).Nodup)
                  have PT : PS (vw t A s34) (vw t A σ2) := PT0.tr Q2
                  have PE : PS (vw t A σ) (vw t A σ2) := PX.tr Q2
                  have F : ∀ j q : Nat, ¬ (59 ≤ j ∧ j ≤ 67) → vw t A σ2 j q = vw t A σ j q := PE.1
                  have FI : ∀ j q : Nat, ¬ (59 ≤ j ∧ j ≤ 67) → gI (vw t A σ2) j q = gI (vw t A σ) j q := fun j q hj => by unfold gI; rw [F j q hj]
                  obtain ⟨w, y1, y2, y3⟩ := pc_tk_d S2.1 h hh0 (by rw [FI 46 0 (by decide)]; exact HA) (by rw [FI 47 0 (by decide)]; exact HM) (by rw [FI 31 _ (by decide)]; exact hR) (by rw [FI 20 _ (by decide)]; exact hw) (by rw [FI 16 _ (by decide)]; exact hS) (by rw [FI 32 _ (by decide)]; exact hE) (fun k5 => by exfalso; omega)
                  refine ⟨w, y1, (((((((S34.tr S103).tr S106).tr S129).tr S147).tr S152).tr S164).tr S2).tr y2, vw t A σ2, _, _, _, F, y3, by rw [i40]; decide, fun g => ?_⟩
                  have g34 := (PT.2.1 g)
                  rcases f34 with ⟨_, f⟩ | ⟨_, _, a3, a4, aa, a5, f⟩
                  · exact absurd (by rw [f, gI_sc (by decide)]) g34
                  have kd0 : w34 = gI (vw t A σ) 57 0 := by rw [a4]; congr 1; show (gI (vw t A σ) 59 0).toInt.toNat = 0; rw [h59]; rfl
                  exact ⟨by rw [kd0], by omega, fun k5 => by exfalso; omega⟩
      · obtain ⟨n232, l232, h⟩ := v_il h (by decide +kernel : pins 172 61 = some (3, 62, 2, 0, [])) (v := w34) rfl
        obtain ⟨n233, w62, l233, ⟨e62, i62⟩, h⟩ := u_ic h (by decide +kernel : pins 172 62 = some (0, 63, 3, 0, [])) (by decide)
        obtain ⟨n234, l234, ⟨c63, h⟩ | ⟨c63, h⟩⟩ := u_ic1 h (by decide +kernel : pins 172 63 = some (17, 66, 1, ((75 : Nat) : Int), []))
        · obtain ⟨n235, l235, h⟩ := v_al h (by decide +kernel : pins 172 75 = some (5, 76, 0, 0, [])) (v := t) rfl
          obtain ⟨n236, r76, s76, l236, h76, h⟩ := pinv_call h (by decide +kernel : pins 172 76 = some (36, 79, 169, 0, [1]))
          have h76 : prun n236 169 0 (lv_args 0 [.ref t]) [] s34 = some (r76, s76) := h76
          have PC76 : PS (vw t A σ) (vw t A s34) := ps34
          obtain ⟨w76, er76, S76, ps76, kg76, nn76⟩ := pc_takeAddress S34.1 h76 (hB.of PC76)
          have er76 : r76 = some (.int w76) := er76
          subst er76
          try dsimp only at S76
          try dsimp only at ps76
          try dsimp only at kg76
          try dsimp only at nn76
          have h : prun n236 172 79 [(5, .int w43), (4, .int w40), (3, .int w38), (2, .int w34), (0, .ref t), (1, .int hh)] [.int w76] s76 = some x := h
          obtain ⟨n237, l237, h⟩ := v_is h (by decide +kernel : pins 172 79 = some (6, 81, 4, 0, []))
          have h : prun n237 172 81 [(4, .int w76), (5, .int w43), (3, .int w38), (2, .int w34), (0, .ref t), (1, .int hh)] [] s76 = some x := h
          obtain ⟨n238, l238, h⟩ := v_al h (by decide +kernel : pins 172 81 = some (5, 82, 0, 0, [])) (v := t) rfl
          obtain ⟨n239, w82, l239, ⟨e82, i82⟩, h⟩ := u_ic h (by decide +kernel : pins 172 82 = some (0, 83, 2, 0, [])) (by decide)
          obtain ⟨n240, r83, s83, l240, h83, h⟩ := pinv_call h (by decide +kernel : pins 172 83 = some (36, 86, 168, 0, [2]))
          have h83 : prun n240 168 0 (lv_args 0 [.ref t, .int w82]) [] s76 = some (r83, s83) := h83
          obtain ⟨w83, er83, S83, f83⟩ := take_2 S76.1 h83 e82
          have er83 : r83 = some (.int w83) := er83
          subst er83
          try dsimp only at S83
          try dsimp only at f83
          obtain ⟨ps83, kg83⟩ : PS (vw t A s76) (vw t A s83) ∧ KG (vw t A s76) (vw t A s83) := take_ps (P := True) (f83.imp_right (fun q => ⟨trivial, q.2.2.2.2.imp (fun _ z => z.2)⟩))
          have h : prun n240 172 86 [(4, .int w76), (5, .int w43), (3, .int w38), (2, .int w34), (0, .ref t), (1, .int hh)] [.int w83] s83 = some x := h
          obtain ⟨n241, l241, h⟩ := v_is h (by decide +kernel : pins 172 86 = some (6, 88, 5, 0, []))
          have h : prun n241 172 88 [(5, .int w83), (4, .int w76), (3, .int w38), (2, .int w34), (0, .ref t), (1, .int hh)] [] s83 = some x := h
          obtain ⟨n242, l242, h⟩ := u_go h (by decide +kernel : pins 172 88 = some (20, 91, 0, ((385 : Nat) : Int), []))
          have h := prun_lv h (lv' := [(6, .int 0), (2, .int w34), (3, .int w38), (4, .int w76), (5, .int w83), (0, .ref t), (1, .int hh)]) (lvLe.cons (lvLe.cons (lvLe.cons (lvLe.cons (lvLe.cons (lvLe.cons lvLe.nil rfl) rfl) rfl) rfl) rfl) rfl) (by decide : ([5, 4, 3, 2, 0, 1] : List Nat).Nodup) (by decide : ([6, 2, 3, 4, 5, 0, 1] : List Nat).Nodup)
          have PT : PS (vw t A s34) (vw t A s83) := (ps76.tr ps83)
          have PE : PS (vw t A σ) (vw t A s83) := ((ps34.tr ps76).tr ps83)
          have F : ∀ j q : Nat, ¬ (59 ≤ j ∧ j ≤ 67) → vw t A s83 j q = vw t A σ j q := PE.1
          have FI : ∀ j q : Nat, ¬ (59 ≤ j ∧ j ≤ 67) → gI (vw t A s83) j q = gI (vw t A σ) j q := fun j q hj => by unfold gI; rw [F j q hj]
          obtain ⟨w, y1, y2, y3⟩ := pc_tk_d S83.1 h hh0 (by rw [FI 46 0 (by decide)]; exact HA) (by rw [FI 47 0 (by decide)]; exact HM) (by rw [FI 31 _ (by decide)]; exact hR) (by rw [FI 20 _ (by decide)]; exact hw) (by rw [FI 16 _ (by decide)]; exact hS) (by rw [FI 32 _ (by decide)]; exact hE) (fun k5 => by exfalso; omega)
          refine ⟨w, y1, ((S34.tr S76).tr S83).tr y2, vw t A s83, _, _, _, F, y3, nn76, fun g => ?_⟩
          have g34 := (PT.2.1 g)
          rcases f34 with ⟨_, f⟩ | ⟨_, _, a3, a4, aa, a5, f⟩
          · exact absurd (by rw [f, gI_sc (by decide)]) g34
          have kd0 : w34 = gI (vw t A σ) 57 0 := by rw [a4]; congr 1; show (gI (vw t A σ) 59 0).toInt.toNat = 0; rw [h59]; rfl
          exact ⟨by rw [kd0], by omega, fun k5 => by exfalso; omega⟩
        · obtain ⟨n243, l243, h⟩ := v_al h (by decide +kernel : pins 172 66 = some (5, 67, 0, 0, [])) (v := t) rfl
          obtain ⟨n244, l244, h⟩ := v_al h (by decide +kernel : pins 172 67 = some (5, 68, 0, 0, [])) (v := t) rfl
          obtain ⟨n245, l245, h⟩ := w_row (k := 62) S34.1 h (by decide +kernel : pins 172 68 = some (22, 71, 13, 62, [])) (by decide)
          obtain ⟨n246, w71, l246, ⟨e71, i71⟩, h⟩ := u_ic h (by decide +kernel : pins 172 71 = some (0, 72, 0, 0, [])) (by decide)
          obtain ⟨n247, r72, s72, l247, h72, h⟩ := pinv_call h (by decide +kernel : pins 172 72 = some (36, 75, 170, 0, [3]))
          have h72 : prun n247 170 0 (lv_args 0 [.ref t, .ref (A 62), .int w71]) [] s34 = some (r72, s72) := h72
          have PC72 : PS (vw t A σ) (vw t A s34) := ps34
          obtain ⟨er72, S72, f72, z72, g72, J72⟩ := takeWord_ S34.1 h72 (by decide) (by rw [i71]; decide) ((hB.of PC72).2) (PC72.2.2 J)
          have er72 : r72 = none := er72
          subst er72
          try dsimp only at S72
          try dsimp only at f72
          try dsimp only at z72
          try dsimp only at g72
          try dsimp only at J72
          have ps72 : PS (vw t A s34) (vw t A s72) := tw_ps (k := 62) (by decide) f72 g72 J72
          have h : prun n247 172 75 [(5, .int w43), (4, .int w40), (3, .int w38), (2, .int w34), (0, .ref t), (1, .int hh)] [] s72 = some x := h
          obtain ⟨n248, l248, h⟩ := v_al h (by decide +kernel : pins 172 75 = some (5, 76, 0, 0, [])) (v := t) rfl
          obtain ⟨n249, r76, s76, l249, h76, h⟩ := pinv_call h (by decide +kernel : pins 172 76 = some (36, 79, 169, 0, [1]))
          have h76 : prun n249 169 0 (lv_args 0 [.ref t]) [] s72 = some (r76, s76) := h76
          have PC76 : PS (vw t A σ) (vw t A s72) := (ps34.tr ps72)
          obtain ⟨w76, er76, S76, ps76, kg76, nn76⟩ := pc_takeAddress S72.1 h76 (hB.of PC76)
          have er76 : r76 = some (.int w76) := er76
          subst er76
          try dsimp only at S76
          try dsimp only at ps76
          try dsimp only at kg76
          try dsimp only at nn76
          have h : prun n249 172 79 [(5, .int w43), (4, .int w40), (3, .int w38), (2, .int w34), (0, .ref t), (1, .int hh)] [.int w76] s76 = some x := h
          obtain ⟨n250, l250, h⟩ := v_is h (by decide +kernel : pins 172 79 = some (6, 81, 4, 0, []))
          have h : prun n250 172 81 [(4, .int w76), (5, .int w43), (3, .int w38), (2, .int w34), (0, .ref t), (1, .int hh)] [] s76 = some x := h
          obtain ⟨n251, l251, h⟩ := v_al h (by decide +kernel : pins 172 81 = some (5, 82, 0, 0, [])) (v := t) rfl
          obtain ⟨n252, w82, l252, ⟨e82, i82⟩, h⟩ := u_ic h (by decide +kernel : pins 172 82 = some (0, 83, 2, 0, [])) (by decide)
          obtain ⟨n253, r83, s83, l253, h83, h⟩ := pinv_call h (by decide +kernel : pins 172 83 = some (36, 86, 168, 0, [2]))
          have h83 : prun n253 168 0 (lv_args 0 [.ref t, .int w82]) [] s76 = some (r83, s83) := h83
          obtain ⟨w83, er83, S83, f83⟩ := take_2 S76.1 h83 e82
          have er83 : r83 = some (.int w83) := er83
          subst er83
          try dsimp only at S83
          try dsimp only at f83
          obtain ⟨ps83, kg83⟩ : PS (vw t A s76) (vw t A s83) ∧ KG (vw t A s76) (vw t A s83) := take_ps (P := True) (f83.imp_right (fun q => ⟨trivial, q.2.2.2.2.imp (fun _ z => z.2)⟩))
          have h : prun n253 172 86 [(4, .int w76), (5, .int w43), (3, .int w38), (2, .int w34), (0, .ref t), (1, .int hh)] [.int w83] s83 = some x := h
          obtain ⟨n254, l254, h⟩ := v_is h (by decide +kernel : pins 172 86 = some (6, 88, 5, 0, []))
          have h : prun n254 172 88 [(5, .int w83), (4, .int w76), (3, .int w38), (2, .int w34), (0, .ref t), (1, .int hh)] [] s83 = some x := h
          obtain ⟨n255, l255, h⟩ := u_go h (by decide +kernel : pins 172 88 = some (20, 91, 0, ((385 : Nat) : Int), []))
          have h := prun_lv h (lv' := [(6, .int 0), (2, .int w34), (3, .int w38), (4, .int w76), (5, .int w83), (0, .ref t), (1, .int hh)]) (lvLe.cons (lvLe.cons (lvLe.cons (lvLe.cons (lvLe.cons (lvLe.cons lvLe.nil rfl) rfl) rfl) rfl) rfl) rfl) (by decide : ([5, 4, 3, 2, 0, 1] : List Nat).Nodup) (by decide : ([6, 2, 3, 4, 5, 0, 1] : List Nat).Nodup)
          have PT : PS (vw t A s34) (vw t A s83) := ((ps72.tr ps76).tr ps83)
          have PE : PS (vw t A σ) (vw t A s83) := (((ps34.tr ps72).tr ps76).tr ps83)
          have F : ∀ j q : Nat, ¬ (59 ≤ j ∧ j ≤ 67) → vw t A s83 j q = vw t A σ j q := PE.1
          have FI : ∀ j q : Nat, ¬ (59 ≤ j ∧ j ≤ 67) → gI (vw t A s83) j q = gI (vw t A σ) j q := fun j q hj => by unfold gI; rw [F j q hj]
          obtain ⟨w, y1, y2, y3⟩ := pc_tk_d S83.1 h hh0 (by rw [FI 46 0 (by decide)]; exact HA) (by rw [FI 47 0 (by decide)]; exact HM) (by rw [FI 31 _ (by decide)]; exact hR) (by rw [FI 20 _ (by decide)]; exact hw) (by rw [FI 16 _ (by decide)]; exact hS) (by rw [FI 32 _ (by decide)]; exact hE) (fun k5 => by exfalso; omega)
          refine ⟨w, y1, (((S34.tr S72).tr S76).tr S83).tr y2, vw t A s83, _, _, _, F, y3, nn76, fun g => ?_⟩
          have g34 := (PT.2.1 g)
          rcases f34 with ⟨_, f⟩ | ⟨_, _, a3, a4, aa, a5, f⟩
          · exact absurd (by rw [f, gI_sc (by decide)]) g34
          have kd0 : w34 = gI (vw t A σ) 57 0 := by rw [a4]; congr 1; show (gI (vw t A σ) 59 0).toInt.toNat = 0; rw [h59]; rfl
          exact ⟨by rw [kd0], by omega, fun k5 => by exfalso; omega⟩
theorem pc_takes {t n : Nat} {A : Nat → Nat} {hh : Int32} {σ : ps} {x : Option Value × ps} (W : Wld t A σ) (h : prun n 172 0 (lv_args 0 [.ref t, .int hh]) [] σ = some x) (hh0 : 0 ≤ hh.toInt ∧ hh.toInt ≤ 7) (HA : 0 ≤ (gI (vw t A σ) 46 0).toInt ∧ (gI (vw t A σ) 46 0).toInt < 800) (HM : 0 ≤ (gI (vw t A σ) 47 0).toInt ∧ (gI (vw t A σ) 47 0).toInt ≤ 1000) (hR : 0 ≤ (gI (vw t A σ) 31 hh.toNatClampNeg).toInt ∧ (gI (vw t A σ) 31 hh.toNatClampNeg).toInt ≤ 4) (hw : 0 ≤ (gI (vw t A σ) 20 (16 * hh.toNatClampNeg)).toInt ∧ (gI (vw t A σ) 20 (16 * hh.toNatClampNeg)).toInt ≤ 15) (hS : (gI (vw t A σ) 16 hh.toNatClampNeg).toInt ≤ 3) (hE : 0 ≤ (gI (vw t A σ) 32 hh.toNatClampNeg).toInt ∧ (gI (vw t A σ) 32 hh.toNatClampNeg).toInt ≤ 24) (hB : PB (vw t A σ)) : ∃ w : Int32, x.1 = some (.int w) ∧ SP t A σ x.2 ∧ ∃ (Vp : Nat → Nat → Value) (kd nn a : Int), (∀ j q : Nat, ¬ (59 ≤ j ∧ j ≤ 67) → Vp j q = vw t A σ j q) ∧ TkE Vp (vw t A x.2) hh.toNatClampNeg kd nn a ∧ 0 ≤ a ∧ (¬ gI Vp 60 0 = 0 → kd = (gI (vw t A σ) 57 0).toInt ∧ 1 ≤ (gI (vw t A σ) 58 0).toInt ∧ (kd = 5 → nn = (gI (vw t A σ) 57 1).toInt ∧ nn ≤ 8 ∧ (1 ≤ nn → LF Vp))) := by
  have h : prun n 172 0 [(0, .ref t), (1, .int hh)] [] σ = some x := h
  obtain ⟨n1, l1, h⟩ := v_al h (by decide +kernel : pins 172 0 = some (5, 1, 0, 0, [])) (v := t) rfl
  obtain ⟨n2, w1, l2, ⟨e1, i1⟩, h⟩ := u_ic h (by decide +kernel : pins 172 1 = some (0, 2, 0, 0, [])) (by decide)
  obtain ⟨n3, s2, l3, S2, u2, h⟩ := w_put (k := 59) W h (by decide +kernel : pins 172 2 = some (23, 5, 13, 59, [])) (by decide)
  obtain ⟨n4, l4, h⟩ := v_al h (by decide +kernel : pins 172 5 = some (5, 6, 0, 0, [])) (v := t) rfl
  obtain ⟨n5, w6, l5, ⟨e6, i6⟩, h⟩ := u_ic h (by decide +kernel : pins 172 6 = some (0, 7, 1, 0, [])) (by decide)
  obtain ⟨n6, s7, l6, S7, u7, h⟩ := w_put (k := 60) S2.1 h (by decide +kernel : pins 172 7 = some (23, 10, 13, 60, [])) (by decide)
  obtain ⟨n7, w10, l7, ⟨e10, i10⟩, h⟩ := u_ic h (by decide +kernel : pins 172 10 = some (0, 11, 0, 0, [])) (by decide)
  obtain ⟨n8, l8, h⟩ := v_is h (by decide +kernel : pins 172 11 = some (6, 12, 2, 0, []))
  have h : prun n8 172 12 [(2, .int w10), (0, .ref t), (1, .int hh)] [] s7 = some x := h
  have h := prun_lv h (lv' := [(2, .int w10), (0, .ref t), (1, .int hh)]) (lvLe.cons (lvLe.cons (lvLe.cons lvLe.nil rfl) rfl) rfl) (by decide : ([2, 0, 1] : List Nat).Nodup) (by decide : ([2, 0, 1] : List Nat).Nodup)
  obtain ⟨m, c2, σ2, SR, F2, Z2, h⟩ := pc_tk_0 _ _ _ x S7.1 ⟨by rw [i10]; decide, fun q hq => by rw [i10] at hq; omega⟩ h
  have G : ∀ j q : Nat, ¬ (59 ≤ j ∧ j ≤ 67) → vw t A σ2 j q = vw t A σ j q := fun j q hj => by rw [F2 j q (by omega), u7, up_ne (by omega), u2, up_ne (by omega)]
  have GI : ∀ j q : Nat, ¬ (59 ≤ j ∧ j ≤ 67) → gI (vw t A σ2) j q = gI (vw t A σ) j q := fun j q hj => by unfold gI; rw [G j q hj]
  have B2 : PB (vw t A σ2) := ⟨fun q hq => by rw [GI 57 q (by decide)]; exact hB.1 q hq, by rw [GI 58 0 (by decide)]; exact hB.2⟩
  have h59 : (gI (vw t A σ2) 59 0).toInt = 0 := by unfold gI; rw [F2 59 0 (by decide), u7, up_ne (by decide), u2, up_sc (by decide), e1]; decide
  have J2 : JV (vw t A σ2) := fun p hp hm => absurd (Z2 p hp) hm
  obtain ⟨w, y1, y2, Vp, kd, nn, a, z1, z2, z3, z4⟩ := pc_tk_32 SR.1 h hh0 (by rw [GI 46 0 (by decide)]; exact HA) (by rw [GI 47 0 (by decide)]; exact HM) (by rw [GI 31 _ (by decide)]; exact hR) (by rw [GI 20 _ (by decide)]; exact hw) (by rw [GI 16 _ (by decide)]; exact hS) (by rw [GI 32 _ (by decide)]; exact hE) B2 J2 h59
  rw [GI 57 0 (by decide), GI 57 1 (by decide), GI 58 0 (by decide)] at z4
  exact ⟨w, y1, (S2.tr S7).tr (SR.tr y2), Vp, kd, nn, a, fun j q hj => (z1 j q hj).trans (G j q hj), z2, z3, z4⟩
