/-- the fields' types by kind: (0, _) a number, (1, M) one of 0 .. M, (2, _) a long, (3, k) a thing of kind k, (4, k) that or null -/
def fT (k j : Nat) : Nat × Nat := (([
  [(0, 0), (0, 0), (0, 0), (2, 0), (2, 0)],
  [(3, 24), (1, 24)],
  [(3, 11), (3, 11), (0, 0), (0, 0), (0, 0), (0, 0), (2, 0), (2, 0), (2, 0), (1, 1)],
  [(0, 0), (3, 0), (3, 4), (3, 29), (3, 27), (3, 28), (3, 1), (1, 1), (0, 0), (0, 0), (0, 0), (1, 4), (1, 4), (0, 0), (0, 0), (0, 0)],
  [(3, 11), (3, 11), (0, 0), (0, 0), (0, 0), (2, 0)],
  [(3, 21), (3, 22), (1, 200), (1, 17), (0, 0), (0, 0)],
  [(3, 11), (1, 1), (0, 0), (0, 0), (2, 0)],
  [(3, 30), (3, 11), (1, 8), (0, 0), (0, 0), (0, 0), (0, 0), (1, 200), (1, 1)],
  [(3, 11), (2, 0)],
  [(3, 11), (0, 0)],
  [(3, 11), (3, 11), (0, 0), (0, 0), (0, 0), (1, 1)],
  [(3, 20), (1, 15)],
  [(3, 25), (3, 5), (3, 7), (3, 23), (3, 26), (1, 1025), (1, 1025), (4, 5), (2, 0), (2, 0)]] : List (List (Nat × Nat))).getD k []).getD j (0, 0)
def okV (L : List Nat) (K : Nat → Nat) (t : Nat × Nat) (v : Value) : Prop :=
  (t.1 = 0 ∧ ∃ i, v = .int i) ∨ (t.1 = 1 ∧ ∃ k, k ≤ t.2 ∧ v = .int (nI k)) ∨ (t.1 = 2 ∧ ∃ x, v = .long x) ∨ (t.1 = 3 ∧ ∃ b, v = .ref b ∧ b ∈ L ∧ K b = t.2) ∨ (t.1 = 4 ∧ (v = .null ∨ ∃ b, v = .ref b ∧ b ∈ L ∧ K b = t.2))
/-- kind and number of a reference row's things -/
def eK (k : Nat) : Nat × Nat := [(2, 24), (3, 8), (5, 1025), (6, 4), (8, 4), (9, 4), (10, 8)].getD (k - 24) (0, 0)
def Typed (L : List Nat) (S : pS) : Prop :=
  (∀ a ∈ L, ∀ j, j < nF (S.1 a) → okV L S.1 (fT (S.1 a) j) (S.2.1 a j)) ∧
  (∀ a ∈ L, 24 ≤ S.1 a → S.1 a ≠ 26 → ∀ i, i < (eK (S.1 a)).2 → ∃ b, S.2.2.2 a i = some b ∧ b ∈ L ∧ S.1 b = (eK (S.1 a)).1) ∧
  (∀ a ∈ L, S.1 a = 26 → ∀ i b, S.2.2.2 a i = some b → b ∈ L ∧ S.1 b = 5)
theorem Typed.int {L : List Nat} {S : pS} (h : Typed L S) {a k j M : Nat} (hL : a ∈ L) (hk : S.1 a = k) (hj : j < nF k) (ht : fT k j = (0, M)) : ∃ i : Int32, S.2.1 a j = .int i := by
  subst hk
  have q := h.1 a hL j hj
  rw [ht] at q
  rcases q with ⟨-, q⟩ | ⟨q, -⟩ | ⟨q, -⟩ | ⟨q, -⟩ | ⟨q, -⟩
  · exact q
  all_goals exact absurd q (by simp)
theorem Typed.bnd {L : List Nat} {S : pS} (h : Typed L S) {a k j M : Nat} (hL : a ∈ L) (hk : S.1 a = k) (hj : j < nF k) (ht : fT k j = (1, M)) : ∃ i : Nat, i ≤ M ∧ S.2.1 a j = .int (nI i) := by
  subst hk
  have q := h.1 a hL j hj
  rw [ht] at q
  rcases q with ⟨q, -⟩ | ⟨-, q⟩ | ⟨q, -⟩ | ⟨q, -⟩ | ⟨q, -⟩
  · exact absurd q (by simp)
  · exact q
  all_goals exact absurd q (by simp)
theorem Typed.long {L : List Nat} {S : pS} (h : Typed L S) {a k j M : Nat} (hL : a ∈ L) (hk : S.1 a = k) (hj : j < nF k) (ht : fT k j = (2, M)) : ∃ x : Int64, S.2.1 a j = .long x := by
  subst hk
  have q := h.1 a hL j hj
  rw [ht] at q
  rcases q with ⟨q, -⟩ | ⟨q, -⟩ | ⟨-, q⟩ | ⟨q, -⟩ | ⟨q, -⟩
  · exact absurd q (by simp)
  · exact absurd q (by simp)
  · exact q
  all_goals exact absurd q (by simp)
theorem Typed.ref {L : List Nat} {S : pS} (h : Typed L S) {a k j M : Nat} (hL : a ∈ L) (hk : S.1 a = k) (hj : j < nF k) (ht : fT k j = (3, M)) : ∃ b : Nat, S.2.1 a j = .ref b ∧ b ∈ L ∧ S.1 b = M := by
  subst hk
  have q := h.1 a hL j hj
  rw [ht] at q
  rcases q with ⟨q, -⟩ | ⟨q, -⟩ | ⟨q, -⟩ | ⟨-, q⟩ | ⟨q, -⟩
  · exact absurd q (by simp)
  · exact absurd q (by simp)
  · exact absurd q (by simp)
  · exact q
  · exact absurd q (by simp)
theorem Typed.opt {L : List Nat} {S : pS} (h : Typed L S) {a k j M : Nat} (hL : a ∈ L) (hk : S.1 a = k) (hj : j < nF k) (ht : fT k j = (4, M)) : S.2.1 a j = .null ∨ ∃ b : Nat, S.2.1 a j = .ref b ∧ b ∈ L ∧ S.1 b = M := by
  subst hk
  have q := h.1 a hL j hj
  rw [ht] at q
  rcases q with ⟨q, -⟩ | ⟨q, -⟩ | ⟨q, -⟩ | ⟨q, -⟩ | ⟨-, q⟩
  · exact absurd q (by simp)
  · exact absurd q (by simp)
  · exact absurd q (by simp)
  · exact absurd q (by simp)
  · exact q
theorem Typed.el {L : List Nat} {S : pS} (h : Typed L S) {a k i : Nat} (hL : a ∈ L) (hk : S.1 a = k) (h24 : 24 ≤ k) (h26 : k ≠ 26) (hi : i < (eK k).2) : ∃ b : Nat, S.2.2.2 a i = some b ∧ b ∈ L ∧ S.1 b = (eK k).1 := by
  subst hk
  exact h.2.1 a hL h24 h26 i hi
/-- a field is written with a thing of its type -/
theorem Typed.put {L : List Nat} {S : pS} (h : Typed L S) {a j : Nat} {v : Value} (hv : okV L S.1 (fT (S.1 a) j) v) : Typed L (S.1, pV S.2.1 a j v, S.2.2) := by
  refine ⟨fun b hb i hi => ?_, h.2.1, h.2.2⟩
  show okV L S.1 (fT (S.1 b) i) (pV S.2.1 a j v b i)
  by_cases q : b = a ∧ i = j
  · obtain ⟨rfl, rfl⟩ := q
    rw [pV_self]; exact hv
  · rw [pV_ne v q]; exact h.1 b hb i hi
/-- a row of numbers is written: nothing is said of it -/
theorem Typed.row {L : List Nat} {S : pS} (h : Typed L S) (r : Nat → Nat → Int32) : Typed L (S.1, S.2.1, r, S.2.2.2) := h
/-- a place of a row of references is written with a thing of its kind -/
theorem Typed.st {L : List Nat} {S : pS} (h : Typed L S) {a i v : Nat} (hv : v ∈ L) (hk : S.1 v = (eK (S.1 a)).1) : Typed L (S.1, S.2.1, S.2.2.1, va_up S.2.2.2 a (va_up (S.2.2.2 a) i (some v))) := by
  refine ⟨h.1, fun b hb h24 h26 n hn => ?_, fun b hb h26 n y hy => ?_⟩
  · show ∃ y, va_up S.2.2.2 a (va_up (S.2.2.2 a) i (some v)) b n = some y ∧ y ∈ L ∧ S.1 y = (eK (S.1 b)).1
    by_cases q : b = a
    · subst q
      rw [va_up_self]
      by_cases q2 : n = i
      · subst q2; exact ⟨v, va_up_self _ _ _, hv, hk⟩
      · rw [va_up_ne _ _ q2]; exact h.2.1 b hb h24 h26 n hn
    · rw [va_up_ne _ _ q]; exact h.2.1 b hb h24 h26 n hn
  · have hy : va_up S.2.2.2 a (va_up (S.2.2.2 a) i (some v)) b n = some y := hy
    have h26 : S.1 b = 26 := h26
    show y ∈ L ∧ S.1 y = 5
    by_cases q : b = a
    · subst q
      rw [va_up_self] at hy
      by_cases q2 : n = i
      · subst q2
        rw [va_up_self] at hy
        cases hy
        refine ⟨hv, ?_⟩
        rw [hk, h26]; rfl
      · rw [va_up_ne _ _ q2] at hy; exact h.2.2 b hb h26 n y hy
    · rw [va_up_ne _ _ q] at hy; exact h.2.2 b hb h26 n y hy
