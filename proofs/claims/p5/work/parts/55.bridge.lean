def rowsA (σ : ps) (t : Nat) (j : Nat) : Nat := if isRw j = true then (match sV σ t j with
  | .ref a => a
  | _ => 0) else σ.1 + t + 1 + j
theorem isRw_lt {j : Nat} (h : isRw j = true) : j < 68 := by
  unfold isRw at h
  have := (kN h).1
  rw [decide_eq_true_eq] at this
  exact this
theorem rw_fty : ∀ j, j < 68 → isRw j = true → (fty 13 j).1 = 2 ∧ (fty 13 j).2.1.toNat = 40 + j := by decide +kernel
theorem in_fty : ∀ j, j < 68 → isIn j = true → (fty 13 j).1 = 0 := by decide +kernel
theorem isIn_lt {j : Nat} (h : isIn j = true) : j < 68 := by
  unfold isIn at h
  simp only [Bool.or_eq_true, beq_iff_eq] at h
  omega
theorem rowsA_ok {Z : Nat → Prop} {σ : ps} {t : Nat} (hT : Typed Z σ) (hZ : Z t) (hk : sK σ t = 13) {j : Nat} (hj : isRw j = true) : sV σ t j = .ref (rowsA σ t j) ∧ Z (rowsA σ t j) ∧ rowsA σ t j ∈ sL σ ∧ sK σ (rowsA σ t j) = 40 + j := by
  have hl := isRw_lt hj
  have h := (hT t hZ).2 j (by rw [hk]; exact hl)
  rw [hk] at h
  obtain ⟨b, eb, zb, kb⟩ := h.r (rw_fty j hl hj).1
  have e : rowsA σ t j = b := by unfold rowsA; rw [if_pos hj, eb]
  rw [e]
  refine ⟨eb, zb, (hT b zb).1, ?_⟩
  rw [kb, (rw_fty j hl hj).2]
theorem wd_of {Z : Nat → Prop} {σ : ps} {t : Nat} (hT : Typed Z σ) (hL : ∀ a ∈ sL σ, a < σ.1) (hZ : Z t) (hk : sK σ t = 13) : Wld t (rowsA σ t) σ := by
  have R := fun j (hj : isRw j = true) => rowsA_ok hT hZ hk hj
  have N : ∀ j, ¬ isRw j = true → rowsA σ t j = σ.1 + t + 1 + j := fun j hj => by unfold rowsA; rw [if_neg hj]
  refine ⟨?_, ?_, fun j hj => ⟨(R j hj).1, (R j hj).2.2.2⟩, ?_, ?_⟩
  · intro i j e
    by_cases hi : isRw i = true
    · by_cases hj : isRw j = true
      · have a := (R i hi).2.2.2
        rw [e, (R j hj).2.2.2] at a
        omega
      · have a := hL _ (R i hi).2.2.1
        rw [e, N j hj] at a
        omega
    · by_cases hj : isRw j = true
      · have a := hL _ (R j hj).2.2.1
        rw [← e, N i hi] at a
        omega
      · rw [N i hi, N j hj] at e
        omega
  · intro j e
    by_cases hj : isRw j = true
    · have a := (R j hj).2.2.2
      rw [e, hk] at a
      omega
    · rw [N j hj] at e
      omega
  · intro j hj
    have hl := isIn_lt hj
    have h := (hT t hZ).2 j (by rw [hk]; exact hl)
    rw [hk] at h
    obtain ⟨x, ex, _⟩ := h.i (in_fty j hl hj)
    exact ⟨x, ex⟩
  · have h := (hT t hZ).2 0 (by rw [hk]; decide)
    rw [hk] at h
    obtain ⟨x, ex, _⟩ := h.l (by decide +kernel)
    exact ⟨x, ex⟩
/-- what a row's elements are, in the view -/
theorem vw_ty {Z : Nat → Prop} {σ : ps} {t : Nat} {A : Nat → Nat} (hT : Typed Z σ) (W : Wld t A σ) (hZ : ∀ j, isRw j = true → Z (A j)) {j : Nat} (hj : isRw j = true) {i : Nat} (hi : (i : Int) < szR j) : okA Z (sL σ) (sK σ) (fty (40 + j) i) (vw t A σ j i) := by
  have k := (W.2.2.1 j hj).2
  have h := (hT (A j) (hZ j hj)).2 i (by
    rw [k]
    unfold szK
    rw [if_neg (by omega)]
    unfold szR at hi
    omega)
  rw [k] at h
  unfold vw
  rw [if_pos hj]
  exact h
theorem vw_tyf {Z : Nat → Prop} {σ : ps} {t : Nat} {A : Nat → Nat} (hT : Typed Z σ) (hZ : Z t) (hk : sK σ t = 13) {j : Nat} (hj : isRw j = false) (hl : j < 68) {i : Nat} : okA Z (sL σ) (sK σ) (fty 13 j) (vw t A σ j i) := by
  have h := (hT t hZ).2 j (by rw [hk]; exact hl)
  rw [hk] at h
  unfold vw
  rw [if_neg (by rw [hj]; decide)]
  exact h
theorem jv_of {t : Nat} {A : Nat → Nat} {σ : ps} (W : Wld t A σ) (h1 : A 57 ∈ sL σ) (h2 : A 61 ∈ sL σ) (J : JM σ) : JV (vw t A σ) := by
  intro p hp hm
  have a := J (A 57) (A 61) h1 h2 ((W.2.2.1 57 (by decide)).2) ((W.2.2.1 61 (by decide)).2) p hp
  exact a hm
theorem jm_of {t : Nat} {A : Nat → Nat} {σ : ps} (W : Wld t A σ) (h1 : A 57 ∈ sL σ) (h2 : A 61 ∈ sL σ) (U : JU σ) (J : JV (vw t A σ)) : JM σ := by
  intro pa wa q1 q2 q3 q4 p hp hm
  have k1 := (W.2.2.1 57 (by decide)).2
  have k2 := (W.2.2.1 61 (by decide)).2
  have e1 : pa = A 57 := U pa (A 57) q1 h1 (by rw [q3, k1]) (Or.inl q3)
  have e2 : wa = A 61 := U wa (A 61) q2 h2 (by rw [q4, k2]) (Or.inr q4)
  rw [e1]
  rw [e2] at hm
  exact J p hp hm
theorem JU.st {t : Nat} {A : Nat → Nat} {σ σ' : ps} (S : SP t A σ σ') (U : JU σ) : JU σ' := by
  intro a b
  rw [S.2.1, S.2.2.1]
  exact U a b
