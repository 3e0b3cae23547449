/-- arguments that fit -/
def okE (Z : Nat → Prop) (L : List Nat) (K : Nat → Nat) : List AV → List Value → Prop
  | [], [] => True
  | t :: ts, v :: vs => okA Z L K t v ∧ okE Z L K ts vs
  | _, _ => False
theorem okE_len {Z : Nat → Prop} {L : List Nat} {K : Nat → Nat} : ∀ (ts : List AV) (vs : List Value), okE Z L K ts vs → vs.length = ts.length ∧ ∀ (i : Nat) (t : AV) (v : Value), ts[i]? = some t → vs[i]? = some v → okA Z L K t v := by
  intro ts
  induction ts with
  | nil =>
    intro vs h
    cases vs with
    | nil => exact ⟨rfl, fun i t v h1 _ => by simp at h1⟩
    | cons v vs => exact absurd h (fun h => h)
  | cons t ts ih =>
    intro vs h
    cases vs with
    | nil => exact absurd h (fun h => h)
    | cons v vs =>
      obtain ⟨h1, h2⟩ := h
      obtain ⟨l, f⟩ := ih vs h2
      refine ⟨by simp [l], fun i t' v' e1 e2 => ?_⟩
      cases i with
      | zero => cases e1; cases e2; exact h1
      | succ i => exact f i t' v' e1 e2
theorem ent_gen {C : CT} {Z : Nat → Prop} {σ : ps} {vs : List Value} (h : okE Z (sL σ) (sK σ) (cEnv C) vs) (hc : ∀ c ∈ cCh C, chOK (fun i => vs.getD i .null) σ c) (h4 : (cEnv C).all (fun t => !(t.1 == 4)) = true) : EntOK C Z σ vs := by
  obtain ⟨l, f⟩ := okE_len _ _ h
  refine ⟨l, f, hc, fun i t h1 e => ?_⟩
  have := List.all_eq_true.mp h4 t (List.mem_of_getElem? h1)
  rw [e] at this
  cases this
theorem inM_f {m : List (Nat × Nat)} {k j : Nat} (h : m.all (fun q => !(q.1 == k)) = true) : inM m k j = false := by
  unfold inM
  rw [List.any_eq_false]
  intro q hq
  have := List.all_eq_true.mp h q hq
  rw [Bool.not_eq_true', beq_eq_false_iff_ne] at this
  simp [this]
/-- cells that a call by contract leaves -/
theorem Rl.kp {X : CT} {rw : Nat → Prop} {Z0 Z : Nat → Prop} {σ0 σ : ps} (h : Rl X rw Z0 σ0 Z σ) {a j : Nat} (ha : a ∈ sL σ0) (hm : inM (cMod X) (sK σ0 a) j = false) : a ∈ sL σ ∧ sK σ a = sK σ0 a ∧ sV σ a j = sV σ0 a j := ⟨(h.1 a ha).1, (h.1 a ha).2.1, (h.1 a ha).2.2 j hm⟩
/-- the room: what the queue's places pay for, and a cell a call -/
def RM (b0 j qa : Nat) (σ : ps) : Prop := Uq qa σ ∧ σ.1 + 3 * nq σ qa ≤ b0 + 5000 + 700 * j ∧ σ.2.1 + 223 * nq σ qa ≤ 420000 + 6 * j
theorem RM.up {b0 j i qa : Nat} {σ : ps} (h : RM b0 j qa σ) (hi : j ≤ i) : RM b0 i qa σ := by
  obtain ⟨a, b, c⟩ := h
  exact ⟨a, by omega, by omega⟩
theorem RM.le {b0 j qa : Nat} {σ : ps} (h : RM b0 j qa σ) : σ.1 ≤ b0 + 5000 + 700 * j ∧ σ.2.1 ≤ 420000 + 6 * j := by
  obtain ⟨a, b, c⟩ := h
  omega
theorem RM.post {b0 j qa : Nat} {C : CT} {rw : Nat → Prop} {Z Z' : Nat → Prop} {σ σ' : ps} (h : RM b0 j qa σ) (R : Rl C rw Z σ Z' σ') (S : Sz C σ σ' (cCe C) (cSl C)) (hc : (cFl C = 0 ∧ cCe C = 0 ∧ cSl C = 0 ∧ (cMod C).all (fun q => !(q.1 == 26)) = true) ∨ ¬ cFl C = 0) (hn : (cNk C).contains 26 = false) : RM b0 j qa σ' := by
  obtain ⟨u, b, c⟩ := h
  rcases hc with ⟨h0, h1, h2, h3⟩ | h0
  · have q := R.kp u.1 (j := 0) (by rw [u.2.1]; exact inM_f h3)
    have e : nq σ' qa = nq σ qa := by
      unfold nq
      congr 1
      funext i
      rw [(R.kp u.1 (j := i) (by rw [u.2.1]; exact inM_f h3)).2.2]
    have s := S.1 h0
    refine ⟨⟨q.1, q.2.1.trans u.2.1, fun b hb hk => ?_⟩, by rw [e]; omega, by rw [e]; omega⟩
    by_cases hl : b ∈ sL σ
    · exact u.2.2 b hl ((R.1 b hl).2.1 ▸ hk)
    · have := (R.2.2.1 b hb hl).1
      rw [hk, hn] at this
      cases this
  · obtain ⟨u', b', c'⟩ := S.2.1 h0 qa u
    exact ⟨u', by omega, by omega⟩
/-- the law's two objects and its row, typed -/
def Tq (b0 j x t qo qa bA : Nat) (A : Nat → Nat) (Z : Nat → Prop) (σ : ps) : Prop := WT Z t A σ ∧ (Z x ∧ sK σ x = 12) ∧ (qo ∈ sL σ ∧ sK σ qo = 38) ∧ RM b0 j qa σ ∧ (∀ k, isRw k = false → bA ≤ A k) ∧ x < bA ∧ qo < bA ∧ qa < bA
section
variable {b0 j x t qo qa bA : Nat} {A : Nat → Nat} {Z : Nat → Prop} {σ : ps}
theorem Tq.xm (T : Tq b0 j x t qo qa bA A Z σ) : x ∈ sL σ := (T.1.1 x T.2.1.1).1
/-- the reference's world by a class's call -/
theorem wt_cls {C : CT} {rw : Nat → Prop} {Z' : Nat → Prop} {σ' : ps} (W : WT Z t A σ) (T' : Typed Z' σ') (L' : ∀ a ∈ sL σ', a < σ'.1) (R : Rl C rw Z σ Z' σ') (hm : (cMod C).all (fun q => decide (q.1 < 13) || (decide (20 ≤ q.1) && decide (q.1 < 38))) = true) (n1 : (cNk C).contains 97 = false) (n2 : (cNk C).contains 101 = false) : WT Z' t A σ' ∧ vw t A σ' = vw t A σ := by
  have out : ∀ k, (k = 13 ∨ 38 ≤ k) → ∀ i, inM (cMod C) k i = false := by
    intro k hk i
    refine inM_f (List.all_eq_true.mpr fun q hq => ?_)
    have := List.all_eq_true.mp hm q hq
    simp only [Bool.or_eq_true, decide_eq_true_eq, Bool.and_eq_true] at this
    rw [Bool.not_eq_true', beq_eq_false_iff_ne]
    omega
  have ft : ∀ i, sV σ' t i = sV σ t i := fun i => (R.kp W.mem (by rw [W.2.2.2.1]; exact out 13 (Or.inl rfl) i)).2.2
  have kt : sK σ' t = 13 := ((R.1 t W.mem).2.1).trans W.2.2.2.1
  have fr : ∀ k, isRw k = true → ∀ i, sV σ' (A k) i = sV σ (A k) i := fun k hk i => (R.kp (W.rm hk) (by rw [(W.W.2.2.1 k hk).2]; exact out (40 + k) (Or.inr (by omega)) i)).2.2
  obtain ⟨w1, w2, w3, w4, w5⟩ := W.W
  refine ⟨⟨T', L', R.2.1 _ W.2.2.1, kt, ⟨w1, w2, fun k hk => ⟨by rw [ft]; exact (w3 k hk).1, ((R.1 _ (W.rm hk)).2.1).trans (w3 k hk).2⟩, fun k hk => by rw [ft]; exact w4 k hk, by rw [ft]; exact w5⟩, fun k hk => R.2.1 _ (W.2.2.2.2.2.1 k hk), JU.of R W.2.2.2.2.2.2 n1 n2⟩, ?_⟩
  funext k i
  unfold vw
  by_cases hk : isRw k = true
  · rw [if_pos hk, if_pos hk, fr k hk]
  · rw [if_neg hk, if_neg hk, ft]
def clsQ (C : CT) : Bool := (cMod C).all (fun q => decide (q.1 < 13) || (decide (20 ≤ q.1) && decide (q.1 < 38))) && (!((cNk C).contains 97) && (!((cNk C).contains 101) && (!((cNk C).contains 26) && ((decide (cFl C = 0) && (decide (cCe C = 0) && (decide (cSl C = 0) && (cMod C).all (fun q => !(q.1 == 26))))) || decide (¬ cFl C = 0)))))
theorem ts_cls {C : CT} {vs : List Value} {r : Option Value} {σ' : ps} (T : Tq b0 j x t qo qa bA A Z σ) (hq : clsQ C = true) (p : Post C Z σ vs r σ') : ∃ Z', Tq b0 j x t qo qa bA A Z' σ' ∧ vw t A σ' = vw t A σ ∧ (∀ i, inM (cMod C) 12 i = false → sV σ' x i = sV σ x i) ∧ (∀ a, Z a → Z' a) ∧ ∃ alt ∈ cAlt C, altOK Z' σ' vs r alt := by
  unfold clsQ at hq
  simp only [Bool.and_eq_true, Bool.not_eq_true', Bool.or_eq_true, decide_eq_true_eq] at hq
  obtain ⟨h1, h2, h3, h4, h5⟩ := hq
  obtain ⟨Z', T', L', R, S, a⟩ := p
  obtain ⟨W', e⟩ := wt_cls T.1 T' L' R h1 h2 h3
  have out : ∀ i, inM (cMod C) 38 i = false := by
    intro i
    refine inM_f (List.all_eq_true.mpr fun q hq => ?_)
    have := List.all_eq_true.mp h1 q hq
    simp only [Bool.or_eq_true, decide_eq_true_eq, Bool.and_eq_true] at this
    rw [Bool.not_eq_true', beq_eq_false_iff_ne]
    omega
  refine ⟨Z', ⟨W', ⟨R.2.1 _ T.2.1.1, ((R.1 x T.xm).2.1).trans T.2.1.2⟩, ⟨(R.1 qo T.2.2.1.1).1, ((R.1 qo T.2.2.1.1).2.1).trans T.2.2.1.2⟩, T.2.2.2.1.post R S h5 h4, T.2.2.2.2⟩, e, fun i hi => (R.kp T.xm (by rw [T.2.1.2]; exact hi)).2.2, R.2.1, a⟩
/-- the reference's world by its own call -/
def refQ (C : CT) : Bool := (cMod C).all (fun q => (q.1 == 13 && !(isRw q.2)) || decide (40 ≤ q.1)) && (decide (cNk C = []) && (decide (cFl C = 0) && (decide (cCe C = 0) && decide (cSl C = 0))))
theorem wt_ref {C : CT} {rw : Nat → Prop} {Z' : Nat → Prop} {σ' : ps} (W : WT Z t A σ) (T' : Typed Z' σ') (L' : ∀ a ∈ sL σ', a < σ'.1) (R : Rl C rw Z σ Z' σ') (hm : (cMod C).all (fun q => (q.1 == 13 && !(isRw q.2)) || decide (40 ≤ q.1)) = true) (hn : cNk C = []) : WT Z' t A σ' ∧ (∀ k i, isRw k = true → inM (cMod C) (40 + k) 0 = false → vw t A σ' k i = vw t A σ k i) ∧ (∀ k i, isRw k = false → inM (cMod C) 13 k = false → vw t A σ' k i = vw t A σ k i) := by
  have row : ∀ k, isRw k = true → inM (cMod C) 13 k = false := by
    intro k hk
    unfold inM
    rw [List.any_eq_false]
    intro q hq h
    have := List.all_eq_true.mp hm q hq
    simp only [Bool.and_eq_true, beq_iff_eq, Bool.or_eq_true, decide_eq_true_eq, Bool.not_eq_true'] at this h
    rcases this with ⟨_, h2⟩ | h2
    · rcases h.2 with h3 | h3
      · omega
      · rw [h3, hk] at h2; cases h2
    · omega
  have ft : ∀ k, inM (cMod C) 13 k = false → sV σ' t k = sV σ t k := fun k hk => (R.kp W.mem (by rw [W.2.2.2.1]; exact hk)).2.2
  have kt : sK σ' t = 13 := ((R.1 t W.mem).2.1).trans W.2.2.2.1
  have zt : Z' t := R.2.1 _ W.2.2.1
  obtain ⟨w1, w2, w3, w4, w5⟩ := W.W
  refine ⟨⟨T', L', zt, kt, ⟨w1, w2, fun k hk => ⟨by rw [ft k (row k hk)]; exact (w3 k hk).1, ((R.1 _ (W.rm hk)).2.1).trans (w3 k hk).2⟩, fun k hk => ?_, ?_⟩, fun k hk => R.2.1 _ (W.2.2.2.2.2.1 k hk), JU.of R W.2.2.2.2.2.2 (by rw [hn]; rfl) (by rw [hn]; rfl)⟩, fun k i hk hq => ?_, fun k i hk hq => ?_⟩
  · have h := (T' t zt).2 k (by rw [kt]; exact isIn_lt hk)
    rw [kt] at h
    obtain ⟨y, ey, _⟩ := h.i (in_fty k (isIn_lt hk) hk)
    exact ⟨y, ey⟩
  · have h := (T' t zt).2 0 (by rw [kt]; decide)
    rw [kt] at h
    obtain ⟨y, ey, _⟩ := h.l (by decide +kernel)
    exact ⟨y, ey⟩
  · unfold vw
    rw [if_pos hk, if_pos hk]
    exact (R.kp (W.rm hk) (by rw [(W.W.2.2.1 k hk).2, inM_row (j' := 0) (by omega)]; exact hq)).2.2
  · unfold vw
    rw [if_neg (by rw [hk]; decide), if_neg (by rw [hk]; decide)]
    exact ft k hq
theorem ts_ref {C : CT} {vs : List Value} {r : Option Value} {σ' : ps} (T : Tq b0 j x t qo qa bA A Z σ) (hq : refQ C = true) (p : Post C Z σ vs r σ') : ∃ Z', Tq b0 j x t qo qa bA A Z' σ' ∧ (∀ k i, isRw k = true → inM (cMod C) (40 + k) 0 = false → vw t A σ' k i = vw t A σ k i) ∧ (∀ k i, isRw k = false → inM (cMod C) 13 k = false → vw t A σ' k i = vw t A σ k i) ∧ sV σ' x = sV σ x ∧ (∀ a, Z a → Z' a) ∧ ∃ alt ∈ cAlt C, altOK Z' σ' vs r alt := by
  unfold refQ at hq
  simp only [Bool.and_eq_true, decide_eq_true_eq] at hq
  obtain ⟨h1, h2, h3, h4, h5⟩ := hq
  obtain ⟨Z', T', L', R, S, a⟩ := p
  obtain ⟨W', e1, e2⟩ := wt_ref T.1 T' L' R h1 h2
  have out : ∀ k, ¬ (k = 13 ∨ 40 ≤ k) → (cMod C).all (fun q => !(q.1 == k)) = true := by
    intro k hk
    refine List.all_eq_true.mpr fun q hq => ?_
    have := List.all_eq_true.mp h1 q hq
    simp only [Bool.and_eq_true, beq_iff_eq, Bool.or_eq_true, decide_eq_true_eq] at this
    rw [Bool.not_eq_true', beq_eq_false_iff_ne]
    omega
  refine ⟨Z', ⟨W', ⟨R.2.1 _ T.2.1.1, ((R.1 x T.xm).2.1).trans T.2.1.2⟩, ⟨(R.1 qo T.2.2.1.1).1, ((R.1 qo T.2.2.1.1).2.1).trans T.2.2.1.2⟩, T.2.2.2.1.post R S (Or.inl ⟨h3, h4, h5, out 26 (by omega)⟩) (by rw [h2]; rfl), T.2.2.2.2⟩, e1, e2, ?_, R.2.1, a⟩
  funext i
  exact (R.kp T.xm (by rw [T.2.1.2]; exact inM_f (out 12 (by omega)))).2.2
/-- by a run that is known in the view -/
theorem Tq.sp {Z' : Nat → Prop} {σ' : ps} (T : Tq b0 j x t qo qa bA A Z σ) (W' : WT Z' t A σ') (zz : ∀ a, Z a → Z' a) (S : SP t A σ σ') : Tq b0 j x t qo qa bA A Z' σ' ∧ sV σ' x = sV σ x := by
  obtain ⟨W, ⟨zx, kx⟩, ⟨mo, ko⟩, ⟨u, r1, r2⟩, hA, b1, b2, b3⟩ := T
  have ap : ∀ a, (sK σ a = 12 ∨ sK σ a = 26 ∨ sK σ a = 38) → a < bA → ∀ i, sV σ' a i = sV σ a i := by
    intro a ka ha i
    refine S.2.2.2.2.2 a i (fun e => ?_) (fun k e => ?_)
    · have := W.2.2.2.1; rw [← e] at this; omega
    · cases hk : isRw k with
      | true => have := (W.W.2.2.1 k hk).2; rw [← e] at this; omega
      | false => have := hA k hk; omega
  have eL := S.2.1
  have eK := S.2.2.1
  refine ⟨⟨W', ⟨zz _ zx, by rw [eK]; exact kx⟩, ⟨by rw [eL]; exact mo, by rw [eK]; exact ko⟩, ⟨⟨by rw [eL]; exact u.1, by rw [eK]; exact u.2.1, by rw [eL, eK]; exact u.2.2⟩, ?_, ?_⟩, hA, b1, b2, b3⟩, ?_⟩
  · have e : nq σ' qa = nq σ qa := by unfold nq; congr 1; funext i; rw [ap qa (Or.inr (Or.inl u.2.1)) b3]
    rw [e, S.2.2.2.1]; exact r1
  · have e : nq σ' qa = nq σ qa := by unfold nq; congr 1; funext i; rw [ap qa (Or.inr (Or.inl u.2.1)) b3]
    rw [e, S.2.2.2.2.1]; exact r2
  · funext i; exact ap x (Or.inl kx) b1 i
end
