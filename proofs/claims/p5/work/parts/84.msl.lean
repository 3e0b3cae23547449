theorem pk_val (V : Nat → Nat → Value) (s : Nat) : pk V s = 8 ∨ pk V s = 2521 ∨ pk V s = 1 := by
  unfold pk pkc
  split
  · exact Or.inl rfl
  · split
    · exact Or.inr (Or.inl rfl)
    · exact Or.inr (Or.inr rfl)
theorem pop_pot {V V' : Nat → Nat → Value} (ty : ∀ g, g < 8 → Ty1 V g) (HA : 0 ≤ (gI V 46 0).toInt ∧ (gI V 46 0).toInt < 800) (h46 : (gI V' 46 0).toInt = ((gI V 46 0).toInt + 1) % 800) (h47 : (gI V' 47 0).toInt = (gI V 47 0).toInt - 1) (h1 : 1 ≤ (gI V 47 0).toInt) (f : ∀ j q, (j < 42 ∨ j = 42) → V' j q = V j q) : P1 V = P1 V' + pk V (gI V 46 0).toInt.toNat ∧ P2 V = P2 V' + w2 (pk V (gI V 46 0).toInt.toNat) := by
  have e := fun i hi => hp_eq (V' := V') (ty i hi) (f 0 0 (by omega)) (fun j q b => f j q (by unfold blk at b; omega))
  have r : ∀ w, rg w V = rg w V' + w (pk V (gI V 46 0).toInt.toNat) := by
    intro w
    unfold rg
    rw [show (gI V 47 0).toInt.toNat = (gI V' 47 0).toInt.toNat + 1 by omega, sm_head, Nat.add_comm]
    congr 1
    · refine sm_eq _ fun i hi => ?_
      show w (pk V _) = w (pk V' _)
      rw [pk_of (fun q => f 42 q (by omega))]
      congr 2
      omega
    · show w (pk V _) = _
      congr 2
      omega
  unfold P1 P2
  rw [r, r, sm_eq 8 (fun i hi => (e i hi).1), sm_eq 8 (fun i hi => (e i hi).2)]
  omega
theorem i32_rem {u v w : Int32} (e : w = u - u / v * v) (hv : v.toInt = 800) (hu : 0 ≤ u.toInt) : w.toInt = u.toInt % 800 := by
  rw [e, n_rem (by rw [hv]; decide), hv, Int.tmod_eq_emod_of_nonneg hu]
/-- rows that a millisecond leaves -/
def kept2 (j : Nat) : Prop := j = 0 ∨ j = 1 ∨ j = 2 ∨ j = 3 ∨ j = 4 ∨ j = 5 ∨ j = 6 ∨ j = 20 ∨ j = 22 ∨ j = 23 ∨ j = 24 ∨ j = 25 ∨ j = 26
theorem kept2_k {j : Nat} (h : kept2 j) : kept j ∧ ¬ j = 9 ∧ ¬ j = 57 ∧ ¬ j = 58 ∧ ¬ j = 46 ∧ ¬ j = 48 ∧ ¬ j = 47 := by unfold kept2 at h; unfold kept; omega
theorem MsI.of {V V' : Nat → Nat → Value} (I : MsI V) (f : ∀ j q, (j = 0 ∨ j = 26 ∨ j = 28 ∨ j = 32 ∨ j = 39) → V' j q = V j q) : MsI V' := ⟨by rw [gL_of (f 0 0 (by omega))]; exact I.1, I.2.1.of fun q => ⟨f 26 q (by omega), f 28 q (by omega)⟩, I.2.2.of fun q => ⟨f 32 q (by omega), f 39 q (by omega)⟩⟩
theorem Pkt.of {V V' : Nat → Nat → Value} {p : Nat} (k : Pkt V p) (f : ∀ j q, (j = 57 ∨ j = 58) → V' j q = V j q) : Pkt V' p := by
  obtain ⟨b0, b1, b7, e, k0, k8⟩ := k
  refine ⟨b0, b1, b7, e, ?_, ?_⟩
  · rw [gI_of (f 58 0 (by omega)), gI_of (f 57 0 (by omega))]; exact k0
  · rw [gI_of (f 58 0 (by omega)), gI_of (f 57 1 (by omega)), gI_of (f 57 7 (by omega))]; exact k8
theorem ms_copy {Z : Nat → Prop} {t : Nat} {A : Nat → Nat} {P : Option Value → ps → Prop} {k m : Int32} (hk : 0 ≤ k.toInt ∧ k.toInt < 800) : ∀ (d : Nat) (i : Int32) (σ : ps), WT Z t A σ → 0 ≤ i.toInt → i.toInt + d = (gI (vw t A σ) 58 0).toInt → (∀ q : Nat, (q : Int) < i.toInt → gI (vw t A σ) 57 q = gI (vw t A σ) 42 (200 * k.toNatClampNeg + q)) → (∀ (i' : Int32) (σ' : ps), WT Z t A σ' → SP t A σ σ' → (∀ j q, ¬ j = 57 → vw t A σ' j q = vw t A σ j q) → (∀ q : Nat, (q : Int) < (gI (vw t A σ) 58 0).toInt → gI (vw t A σ') 57 q = gI (vw t A σ) 42 (200 * k.toNatClampNeg + q)) → wp 166 86 [(3, .int i'), (2, .int k), (1, .int m), (0, .ref t)] [] σ' P) → wp 166 54 [(3, .int i), (2, .int k), (1, .int m), (0, .ref t)] [] σ P := by
  have hkn : (k.toNatClampNeg : Int) = k.toInt := n_clamp hk.1
  intro d
  induction d with
  | zero =>
    intro i σ W h0 hd hI cont
    have sz := W.size
    refine x_il (by decide +kernel : pins 166 54 = some (3, 55, 3, 0, [])) (v := i) rfl ?_
    refine x_al (by decide +kernel : pins 166 55 = some (5, 56, 0, 0, [])) (v := t) rfl ?_
    refine y_fi (k := 58) W (by decide +kernel : pins 166 56 = some (22, 59, 13, 58, [])) (by decide) fun w56 e56 t56 => ?_
    refine y_ic3 (by decide +kernel : pins 166 59 = some (17, 62, 3, ((86 : Nat) : Int), [])) (fun c59 => ?_) (fun c59 => ?_)
    · exact cont _ _ W (SP.rf W.W) (fun _ _ _ => rfl) (fun q hq => hI q (by omega))
    · exfalso; rw [e56] at c59; omega
  | succ d ih =>
    intro i σ W h0 hd hI cont
    have sz := W.size
    have hin : (i.toNatClampNeg : Int) = i.toInt := n_clamp h0
    refine x_il (by decide +kernel : pins 166 54 = some (3, 55, 3, 0, [])) (v := i) rfl ?_
    refine x_al (by decide +kernel : pins 166 55 = some (5, 56, 0, 0, [])) (v := t) rfl ?_
    refine y_fi (k := 58) W (by decide +kernel : pins 166 56 = some (22, 59, 13, 58, [])) (by decide) fun w56 e56 t56 => ?_
    refine y_ic3 (by decide +kernel : pins 166 59 = some (17, 62, 3, ((86 : Nat) : Int), [])) (fun c59 => ?_) (fun c59 => ?_)
    · exfalso; rw [e56] at c59; omega
    · rw [e56] at c59
      refine x_al (by decide +kernel : pins 166 62 = some (5, 63, 0, 0, [])) (v := t) rfl ?_
      refine y_row (k := 57) W (by decide +kernel : pins 166 63 = some (22, 66, 13, 57, [])) (by decide) ?_
      refine x_il (by decide +kernel : pins 166 66 = some (3, 67, 3, 0, [])) (v := i) rfl ?_
      refine x_al (by decide +kernel : pins 166 67 = some (5, 68, 0, 0, [])) (v := t) rfl ?_
      refine y_row (k := 42) W (by decide +kernel : pins 166 68 = some (22, 71, 13, 42, [])) (by decide) ?_
      refine y_ic (by decide +kernel : pins 166 71 = some (0, 74, 200, 0, [])) (by decide) fun w71 e71 i71 => ?_
      refine x_il (by decide +kernel : pins 166 74 = some (3, 75, 2, 0, [])) (v := k) rfl ?_
      refine y_mul (by decide +kernel : pins 166 75 = some (10, 76, 2, 0, [])) fun w75 e75 => ?_
      refine x_il (by decide +kernel : pins 166 76 = some (3, 77, 3, 0, [])) (v := i) rfl ?_
      refine y_add (by decide +kernel : pins 166 77 = some (10, 78, 0, 0, [])) fun w77 e77 => ?_
      have q75 : w75.toInt = 200 * k.toInt := by rw [e75, n_mul (by rw [i71]; omega) (by rw [i71]; omega), i71]
      have q77 : w77.toInt = 200 * k.toInt + i.toInt := by rw [addc e77 rfl (by omega) (by omega) (by omega) (by omega), q75]
      refine y_iald (k := 42) W (by decide +kernel : pins 166 78 = some (24, 79, 0, 0, [])) (by decide) (by decide) (by show 0 ≤ w77.toInt ∧ w77.toInt < (160000 : Int); omega) fun w78 e78 t78 => ?_
      refine y_iast (k := 57) W (by decide +kernel : pins 166 79 = some (28, 80, 0, 0, [])) (by decide) (by decide) (by show 0 ≤ i.toInt ∧ i.toInt < (200 : Int); omega) (okA.mkI (lo := 0) (hi := 255) t78.1 t78.2) fun s79 W79 S79 u79 => ?_
      refine y_inc (by decide +kernel : pins 166 80 = some (9, 83, 3, 1, [])) (v := i) rfl fun w80 e80 => ?_
      show wp 166 83 [(3, .int w80), (2, .int k), (1, .int m), (0, .ref t)] [] s79 _
      refine x_go (by decide +kernel : pins 166 83 = some (20, 86, 0, ((54 : Nat) : Int), [])) ?_
      have q80 : w80.toInt = i.toInt + 1 := addc e80 (by decide : (Int32.ofInt 1).toInt = 1) (by omega) (by omega) (by decide) (by decide)
      have n77 : w77.toNatClampNeg = 200 * k.toNatClampNeg + i.toNatClampNeg := by rw [clampc q77 (by omega)]; omega
      have g58 : gI (vw t A s79) 58 0 = gI (vw t A σ) 58 0 := by rw [u79, gI_ne (by decide)]
      have f57 : ∀ j q, ¬ j = 57 → vw t A s79 j q = vw t A σ j q := fun j q hj => by rw [u79, up_ne hj]
      refine ih w80 s79 W79 (by omega) (by rw [g58]; omega) (fun q hq => ?_) (fun i' σ' W' S' f' c' => cont i' σ' W' (S79.tr S') (fun j q hj => (f' j q hj).trans (f57 j q hj)) (fun q hq => ?_))
      · rw [gI_of (f57 42 _ (by decide))]
        by_cases e : q = i.toNatClampNeg
        · rw [e, u79, gI_eq, e78, n77]
        · rw [u79, gI_ni (by decide) e]; exact hI q (by omega)
      · rw [c' q (by rw [g58]; exact hq), gI_of (f57 42 _ (by decide))]
