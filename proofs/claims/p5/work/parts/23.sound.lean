theorem okA.i {Z : Nat → Prop} {L : List Nat} {K : Nat → Nat} {t : AV} {v : Value} (h : okA Z L K t v) (h0 : t.1 = 0) : ∃ x : Int32, v = .int x ∧ t.2.1 ≤ x.toInt ∧ x.toInt ≤ t.2.2.1 ∧ (t.2.2.2.1 : Int) ≤ x.toInt % 16 ∧ x.toInt % 16 ≤ (t.2.2.2.2 : Int) := by
  rcases h with ⟨_, h⟩ | ⟨h1, _⟩ | ⟨h1, _⟩ | ⟨h1, _⟩ | ⟨h1, _⟩ | ⟨h1, _⟩
  · exact h
  all_goals omega
theorem okA.l {Z : Nat → Prop} {L : List Nat} {K : Nat → Nat} {t : AV} {v : Value} (h : okA Z L K t v) (h0 : t.1 = 1) : ∃ x : Int64, v = .long x ∧ t.2.1 ≤ x.toInt ∧ x.toInt ≤ t.2.2.1 := by
  rcases h with ⟨h1, _⟩ | ⟨_, h⟩ | ⟨h1, _⟩ | ⟨h1, _⟩ | ⟨h1, _⟩ | ⟨h1, _⟩
  · omega
  · exact h
  all_goals omega
theorem okA.r {Z : Nat → Prop} {L : List Nat} {K : Nat → Nat} {t : AV} {v : Value} (h : okA Z L K t v) (h0 : t.1 = 2) : ∃ b, v = .ref b ∧ Z b ∧ K b = t.2.1.toNat := by
  rcases h with ⟨h1, _⟩ | ⟨h1, _⟩ | ⟨_, h⟩ | ⟨h1, _⟩ | ⟨h1, _⟩ | ⟨h1, _⟩
  · omega
  · omega
  · exact h
  all_goals omega
theorem okA.o {Z : Nat → Prop} {L : List Nat} {K : Nat → Nat} {t : AV} {v : Value} (h : okA Z L K t v) (h0 : t.1 = 3) : v = .null ∨ ∃ b, v = .ref b ∧ Z b ∧ K b = t.2.1.toNat := by
  rcases h with ⟨h1, _⟩ | ⟨h1, _⟩ | ⟨h1, _⟩ | ⟨_, h⟩ | ⟨h1, _⟩ | ⟨h1, _⟩
  · omega
  · omega
  · omega
  · exact h
  all_goals omega
theorem okA.w {Z : Nat → Prop} {L : List Nat} {K : Nat → Nat} {t : AV} {v : Value} (h : okA Z L K t v) (h0 : t.1 = 4) : ∃ b, v = .ref b ∧ b ∈ L ∧ ¬ Z b ∧ K b = t.2.1.toNat := by
  rcases h with ⟨h1, _⟩ | ⟨h1, _⟩ | ⟨h1, _⟩ | ⟨h1, _⟩ | ⟨_, h⟩ | ⟨h1, _⟩
  · omega
  · omega
  · omega
  · omega
  · exact h
  · omega
theorem okA.n {Z : Nat → Prop} {L : List Nat} {K : Nat → Nat} {t : AV} {v : Value} (h : okA Z L K t v) (h0 : t.1 = 5) : v = .null := by
  rcases h with ⟨h1, _⟩ | ⟨h1, _⟩ | ⟨h1, _⟩ | ⟨h1, _⟩ | ⟨h1, _⟩ | ⟨_, h⟩
  · omega
  · omega
  · omega
  · omega
  · omega
  · exact h
theorem okA.mkI {Z : Nat → Prop} {L : List Nat} {K : Nat → Nat} {lo hi : Int} {x : Int32} (h1 : lo ≤ x.toInt) (h2 : x.toInt ≤ hi) : okA Z L K (aI lo hi) (.int x) := by
  refine Or.inl ?_
  unfold aI
  split
  · refine ⟨rfl, x, rfl, h1, h2, ?_, ?_⟩ <;> simp only <;> omega
  · refine ⟨rfl, x, rfl, h1, h2, ?_, ?_⟩ <;> simp only <;> omega
theorem okA.any {Z : Nat → Prop} {L : List Nat} {K : Nat → Nat} (x : Int32) : okA Z L K aAny (.int x) := by
  have h := n_rng x
  exact Or.inl ⟨rfl, x, rfl, h.1, h.2, by simp only [aAny]; omega, by simp only [aAny]; omega⟩
theorem okA.wide {Z : Nat → Prop} {L : List Nat} {K : Nat → Nat} {lo hi : Int} {x : Int32} (h1 : lo ≤ x.toInt) (h2 : x.toInt ≤ hi) : okA Z L K (0, lo, hi, 0, 15) (.int x) :=
  Or.inl ⟨rfl, x, rfl, h1, h2, by simp only; omega, by simp only; omega⟩
theorem okA.lng {Z : Nat → Prop} {L : List Nat} {K : Nat → Nat} (x : Int64) : okA Z L K aLong (.long x) := by
  have h1 := x.le_toInt
  have h2 := x.toInt_lt
  exact Or.inr (Or.inl ⟨rfl, x, rfl, by simp only [aLong]; omega, by simp only [aLong]; omega⟩)
theorem aLe_ok {Z : Nat → Prop} {L : List Nat} {K : Nat → Nat} {a b : AV} {v : Value} (h : aLe a b = true) (hv : okA Z L K a v) : okA Z L K b v := by
  unfold aLe at h
  split at h
  · rename_i h0
    simp only [Bool.and_eq_true, decide_eq_true_eq] at h
    obtain ⟨x, e, q1, q2, q3, q4⟩ := hv.i h0
    exact Or.inl ⟨h.1, x, e, by omega, by omega, by omega, by omega⟩
  · split at h
    · rename_i _ h0
      simp only [Bool.and_eq_true, decide_eq_true_eq] at h
      obtain ⟨x, e, q1, q2⟩ := hv.l h0
      exact Or.inr (Or.inl ⟨h.1, x, e, by omega, by omega⟩)
    · split at h
      · rename_i _ _ h0
        simp only [Bool.and_eq_true, Bool.or_eq_true, decide_eq_true_eq] at h
        obtain ⟨x, e, q1, q2⟩ := hv.r h0
        rcases h.1 with h1 | h1
        · exact Or.inr (Or.inr (Or.inl ⟨h1, x, e, q1, by rw [← h.2]; exact q2⟩))
        · exact Or.inr (Or.inr (Or.inr (Or.inl ⟨h1, Or.inr ⟨x, e, q1, by rw [← h.2]; exact q2⟩⟩)))
      · split at h
        · rename_i _ _ _ h0
          simp only [Bool.and_eq_true, decide_eq_true_eq] at h
          refine Or.inr (Or.inr (Or.inr (Or.inl ⟨h.1, ?_⟩)))
          rw [← h.2]
          exact hv.o h0
        · split at h
          · rename_i _ _ _ _ h0
            simp only [Bool.and_eq_true, decide_eq_true_eq] at h
            refine Or.inr (Or.inr (Or.inr (Or.inr (Or.inl ⟨h.1, ?_⟩))))
            rw [← h.2]
            exact hv.w h0
          · split at h
            · rename_i _ _ _ _ _ h0
              simp only [Bool.or_eq_true, decide_eq_true_eq] at h
              rcases h with h | h
              · exact Or.inr (Or.inr (Or.inr (Or.inr (Or.inr ⟨h, hv.n h0⟩))))
              · exact Or.inr (Or.inr (Or.inr (Or.inl ⟨h, Or.inl (hv.n h0)⟩)))
            · cases h
/-- values keep what is known of them, when more is there -/
theorem okA.mono {Z Z' : Nat → Prop} {L L' : List Nat} {K K' : Nat → Nat} {t : AV} {v : Value} (h : okA Z L K t v) (hZ : ∀ b, Z b → b ∈ L ∧ Z' b) (hK : ∀ b ∈ L, K' b = K b) (hL : ∀ b ∈ L, b ∈ L') (hR : t.1 = 4 → ∀ b, v = .ref b → ¬ Z' b) : okA Z' L' K' t v := by
  rcases h with h | h | ⟨h1, b, e, q1, q2⟩ | ⟨h1, h⟩ | ⟨h1, b, e, q1, q2, q3⟩ | h
  · exact Or.inl h
  · exact Or.inr (Or.inl h)
  · exact Or.inr (Or.inr (Or.inl ⟨h1, b, e, (hZ b q1).2, by rw [hK b (hZ b q1).1]; exact q2⟩))
  · refine Or.inr (Or.inr (Or.inr (Or.inl ⟨h1, ?_⟩)))
    rcases h with h | ⟨b, e, q1, q2⟩
    · exact Or.inl h
    · exact Or.inr ⟨b, e, (hZ b q1).2, by rw [hK b (hZ b q1).1]; exact q2⟩
  · exact Or.inr (Or.inr (Or.inr (Or.inr (Or.inl ⟨h1, b, e, hL b q1, hR h1 b e, by rw [hK b q1]; exact q3⟩))))
  · exact Or.inr (Or.inr (Or.inr (Or.inr (Or.inr h))))
theorem okA.obj {Z : Nat → Prop} {σ : ps} {t : AV} {v : Value} (hT : Typed Z σ) (h : okA Z (sL σ) (sK σ) t v) (h0 : oTag t.1 = true) : ∃ b, v = .ref b ∧ b ∈ sL σ ∧ sK σ b = t.2.1.toNat ∧ (t.1 = 2 → Z b) ∧ (t.1 = 4 → ¬ Z b) := by
  unfold oTag at h0
  simp only [Bool.or_eq_true, beq_iff_eq] at h0
  rcases h0 with h0 | h0
  · obtain ⟨b, e, q1, q2⟩ := h.r h0
    exact ⟨b, e, (hT b q1).1, q2, fun _ => q1, fun h => by omega⟩
  · obtain ⟨b, e, q1, q2, q3⟩ := h.w h0
    exact ⟨b, e, q1, q3, fun h => by omega, fun _ => q2⟩
theorem okA.ref {Z : Nat → Prop} {L : List Nat} {K : Nat → Nat} {t : AV} {v : Value} (h : okA Z L K t v) (h0 : isRefT t.1 = true) : v = .null ∨ ∃ b, v = .ref b := by
  unfold isRefT at h0
  simp only [Bool.or_eq_true, beq_iff_eq] at h0
  rcases h0 with h0 | h0 | h0 | h0
  · obtain ⟨b, e, _⟩ := h.r h0; exact Or.inr ⟨b, e⟩
  · rcases h.o h0 with e | ⟨b, e, _⟩
    · exact Or.inl e
    · exact Or.inr ⟨b, e⟩
  · obtain ⟨b, e, _⟩ := h.w h0; exact Or.inr ⟨b, e⟩
  · exact Or.inl (h.n h0)
/-- how many places of a queue are null -/
def isN (v : Value) : Bool := match v with
  | .null => true
  | _ => false
def nq (σ : ps) (qa : Nat) : Nat := (List.range 1025).countP (fun i => isN (sV σ qa i))
def Uq (qa : Nat) (σ : ps) : Prop := qa ∈ sL σ ∧ sK σ qa = 26 ∧ ∀ b ∈ sL σ, sK σ b = 26 → b = qa
/-- what is made is paid by places of the queue -/
def RB (σ0 σ : ps) : Prop := ∀ qa, Uq qa σ0 → Uq qa σ ∧ σ.1 + 3 * nq σ qa ≤ σ0.1 + 3 * nq σ0 qa ∧ σ.2.1 + 223 * nq σ qa ≤ σ0.2.1 + 223 * nq σ0 qa
theorem RB.rf (σ : ps) : RB σ σ := fun _ h => ⟨h, Nat.le_refl _, Nat.le_refl _⟩
theorem RB.tr {σ0 σ1 σ2 : ps} (h1 : RB σ0 σ1) (h2 : RB σ1 σ2) : RB σ0 σ2 := fun qa h => by
  obtain ⟨a1, a2, a3⟩ := h1 qa h
  obtain ⟨b1, b2, b3⟩ := h2 qa a1
  exact ⟨b1, by omega, by omega⟩
theorem RB.put {σ : ps} {a j : Nat} {v : Value} (hk : ¬ sK σ a = 26) : RB σ (sPut σ a j v) := fun qa h => by
  have hne : qa ≠ a := fun e => hk (e ▸ h.2.1)
  have e : nq (sPut σ a j v) qa = nq σ qa := by unfold nq; rw [sPut_ne j v hne]
  exact ⟨h, by rw [e]; exact Nat.le_refl _, by rw [e]; exact Nat.le_refl _⟩
/-- a place marked as a word's tells a word, and no sign of it is 40 -/
def JU (σ : ps) : Prop := ∀ a b, a ∈ sL σ → b ∈ sL σ → sK σ a = sK σ b → (sK σ a = 97 ∨ sK σ a = 101) → a = b
def JM (σ : ps) : Prop := ∀ pa wa, pa ∈ sL σ → wa ∈ sL σ → sK σ pa = 97 → sK σ wa = 101 → ∀ p : Nat, p < 200 → ¬ toI (sV σ wa p) = 0 → 1 ≤ (toI (sV σ pa p)).toInt ∧ (toI (sV σ pa p)).toInt ≤ 15 ∧ (p : Int) + (toI (sV σ pa p)).toInt < 200 ∧ ∀ d : Nat, 1 ≤ d → (d : Int) ≤ (toI (sV σ pa p)).toInt → ¬ (toI (sV σ pa (p + d))).toInt = 40
/-- one packet, one row of marks; a mark tells of the packet -/
def JJ (σ : ps) : Prop := JU σ ∧ JM σ
theorem JJ.put {σ : ps} {a j : Nat} {v : Value} (h : JJ σ) (h1 : ¬ sK σ a = 97) (h2 : ¬ sK σ a = 101) : JJ (sPut σ a j v) := ⟨h.1, fun pa wa q1 q2 q3 q4 p hp hn => by
  have e1 : sV (sPut σ a j v) pa = sV σ pa := sPut_ne j v (fun e => h1 (e ▸ q3))
  have e2 : sV (sPut σ a j v) wa = sV σ wa := sPut_ne j v (fun e => h2 (e ▸ q4))
  rw [e2] at hn
  rw [e1]
  exact h.2 pa wa q1 q2 q3 q4 p hp hn⟩
def Rl (X : CT) (rw : Nat → Prop) (Z0 : Nat → Prop) (σ0 : ps) (Z : Nat → Prop) (σ : ps) : Prop :=
  (∀ a ∈ sL σ0, a ∈ sL σ ∧ sK σ a = sK σ0 a ∧ ∀ j, inM (cMod X) (sK σ0 a) j = false → sV σ a j = sV σ0 a j) ∧
  (∀ a, Z0 a → Z a) ∧ (∀ a ∈ sL σ, a ∉ sL σ0 → (cNk X).contains (sK σ a) = true ∧ σ0.1 ≤ a) ∧
  (∀ a ∈ sL σ0, Z a → Z0 a ∨ rw a) ∧ σ0.1 ≤ σ.1 ∧ σ0.2.1 ≤ σ.2.1
def Sz (X : CT) (σ0 σ : ps) (ce sl : Nat) : Prop := (cFl X = 0 → σ.1 ≤ σ0.1 + ce ∧ σ.2.1 ≤ σ0.2.1 + sl) ∧ (¬ cFl X = 0 → RB σ0 σ) ∧ (¬ cUi X = 0 → JJ σ)
def Inv (X : CT) (rw : Nat → Prop) (Z0 : Nat → Prop) (σ0 : ps) (vs : List Value) (Z : Nat → Prop) (ρ : Nat → Value) (α : AS) (lv : LV) (st : List Value) (σ : ps) : Prop :=
  G Z ρ α lv st σ ∧ Rl X rw Z0 σ0 Z σ ∧ Sz X σ0 σ α.2.2.2.2.1 α.2.2.2.2.2 ∧ (∀ (i : Nat) (v : Value), vs[i]? = some v → ρ i = v) ∧ vs.length ≤ α.1.length ∧ ∀ (i : Nat) (e : AE) (b : Nat), α.1[i]? = some e → e.1.1 = 4 → ρ i = .ref b → b ∈ sL σ0 → rw b
def Nx (X : CT) (rw : Nat → Prop) (Z0 : Nat → Prop) (σ0 : ps) (vs : List Value) (q : PI) (lv : LV) (st : List Value) (σ : ps) (k : Nat → AS → Bool) : Prop :=
  ∃ (pc' : Nat) (lv' : LV) (st' : List Value) (σ' : ps) (α' : AS) (ρ' : Nat → Value) (Z' : Nat → Prop), pst q lv st σ = some (pc', lv', st', σ') ∧ k pc' α' = true ∧ Inv X rw Z0 σ0 vs Z' ρ' α' lv' st' σ'
def ru (ρ : Nat → Value) (n : Nat) (v : Value) : Nat → Value := fun i => if i = n then v else ρ i
theorem ru_self (ρ : Nat → Value) (n : Nat) (v : Value) : ru ρ n v n = v := by simp [ru]
theorem ru_ne {ρ : Nat → Value} {n i : Nat} (v : Value) (h : ¬ i = n) : ru ρ n v i = ρ i := by simp [ru, h]
theorem eg_get {α : AS} {i : Nat} (h : i < α.1.length) : α.1[i]? = some (eg α i) := by
  unfold eg
  rw [List.getD_eq_getElem?_getD, List.getElem?_eq_getElem h]
  rfl
theorem eg_of {α : AS} {i : Nat} {e : AE} (h : α.1[i]? = some e) : eg α i = e := by
  unfold eg
  rw [List.getD_eq_getElem?_getD, h]
  rfl
theorem eg_out {α : AS} {i : Nat} (h : ¬ i < α.1.length) : (eg α i).1.1 = 9 := by
  unfold eg
  rw [List.getD_eq_getElem?_getD, List.getElem?_eq_none (by omega)]
  rfl
section GL
variable {Z : Nat → Prop} {ρ : Nat → Value} {α : AS} {lv : LV} {st : List Value} {σ : ps}
theorem G.ok (h : G Z ρ α lv st σ) {i : Nat} (hi : ¬ (eg α i).1.1 = 9) : okA Z (sL σ) (sK σ) (eg α i).1 (ρ i) ∧ depOK ρ i (eg α i) ∧ i < α.1.length := by
  by_cases hl : i < α.1.length
  · have q := h.1 i _ (eg_get hl)
    exact ⟨q.1, q.2, hl⟩
  · exact absurd (eg_out hl) hi
theorem G.int (h : G Z ρ α lv st σ) {i : Nat} (hi : (eg α i).1.1 = 0) : ∃ x : Int32, ρ i = .int x ∧ (eg α i).1.2.1 ≤ x.toInt ∧ x.toInt ≤ (eg α i).1.2.2.1 ∧ ((eg α i).1.2.2.2.1 : Int) ≤ x.toInt % 16 ∧ x.toInt % 16 ≤ ((eg α i).1.2.2.2.2 : Int) := (h.ok (by omega)).1.i hi
theorem G.long (h : G Z ρ α lv st σ) {i : Nat} (hi : (eg α i).1.1 = 1) : ∃ x : Int64, ρ i = .long x ∧ (eg α i).1.2.1 ≤ x.toInt ∧ x.toInt ≤ (eg α i).1.2.2.1 := (h.ok (by omega)).1.l hi
theorem oTag_ne {t : Nat} (h : oTag t = true) : ¬ t = 9 := by
  intro e; subst e; cases h
theorem isRefT_ne {t : Nat} (h : isRefT t = true) : ¬ t = 9 := by
  intro e; subst e; cases h
theorem G.obj (h : G Z ρ α lv st σ) {i : Nat} (hi : oTag (eg α i).1.1 = true) : ∃ b, ρ i = .ref b ∧ b ∈ sL σ ∧ sK σ b = akind α i ∧ ((eg α i).1.1 = 2 → Z b) ∧ ((eg α i).1.1 = 4 → ¬ Z b) := (h.ok (oTag_ne hi)).1.obj h.2.2.2.2.2.1 hi
/-- fewer or other symbols on the stack -/
theorem G.sst (h : G Z ρ α lv st σ) (l : List Nat) : G Z ρ (asst α l) lv (l.map ρ) σ := ⟨h.1, h.2.1, rfl, h.2.2.2.1, h.2.2.2.2.1, h.2.2.2.2.2⟩
theorem G.stk (h : G Z ρ α lv st σ) {l : List Nat} (e : α.2.2.1 = l) : st = l.map ρ := e ▸ h.2.2.1
end GL
theorem wf_lv {α : AS} (h : wfB α = true) : ∀ q ∈ α.2.1, q.2 < α.1.length := by
  unfold wfB at h
  rw [Bool.and_eq_true, List.all_eq_true] at h
  exact fun q hq => of_decide_eq_true (h.1 q hq)
theorem wf_st {α : AS} (h : wfB α = true) : ∀ q ∈ α.2.2.1, q < α.1.length := by
  unfold wfB at h
  rw [Bool.and_eq_true, Bool.and_eq_true, List.all_eq_true, List.all_eq_true] at h
  exact fun q hq => of_decide_eq_true (h.2.1 q hq)
theorem wf_ch {α : AS} (h : wfB α = true) : ∀ c ∈ α.2.2.2.1, c.1 < α.1.length ∧ c.2.2.2 < α.1.length ∧ (¬ c.2.1 = 1 ∨ c.2.2.1.toNat < α.1.length) := by
  unfold wfB at h
  rw [Bool.and_eq_true, Bool.and_eq_true, Bool.and_eq_true, List.all_eq_true, List.all_eq_true, List.all_eq_true] at h
  intro c hc
  have q := h.2.2.1 c hc
  rw [Bool.and_eq_true, Bool.and_eq_true, Bool.or_eq_true, decide_eq_true_eq, decide_eq_true_eq, decide_eq_true_eq, decide_eq_true_eq] at q
  exact q
theorem wf_dep {α : AS} (h : wfB α = true) : ∀ (i : Nat) (e : AE), α.1[i]? = some e → e.2.1 ≤ α.1.length := by
  unfold wfB at h
  rw [Bool.and_eq_true, Bool.and_eq_true, Bool.and_eq_true, List.all_eq_true (l := α.1)] at h
  exact fun i e he => of_decide_eq_true (h.2.2.2 e (List.mem_of_getElem? he))
theorem map_ru {ρ : Nat → Value} {n : Nat} {v : Value} {l : List Nat} (h : ∀ q ∈ l, q < n) : l.map (ru ρ n v) = l.map ρ := List.map_congr_left (fun q hq => ru_ne v (by have := h q hq; omega))
theorem chOK_ru {ρ : Nat → Value} {n : Nat} {v : Value} {σ : ps} {c : CH} (h : chOK ρ σ c) (h1 : c.1 < n) (h2 : c.2.2.2 < n) (h3 : ¬ c.2.1 = 1 ∨ c.2.2.1.toNat < n) : chOK (ru ρ n v) σ c := by
  have e1 : ru ρ n v c.1 = ρ c.1 := ru_ne v (by omega)
  have e2 : ru ρ n v c.2.2.2 = ρ c.2.2.2 := ru_ne v (by omega)
  rcases h with ⟨t, x, y, q1, q2, q3⟩ | ⟨a, q1, q2⟩
  · exact Or.inl ⟨t, x, y, e1.trans q1, q2, e2.trans q3⟩
  · refine Or.inr ⟨a, e1.trans q1, ?_⟩
    rcases q2 with ⟨t, q2⟩ | ⟨t, x, q3, q4⟩
    · exact Or.inl ⟨t, q2.trans e2.symm⟩
    · refine Or.inr ⟨t, x, ?_, q4.trans e2.symm⟩
      rw [ru_ne v (by omega)]
      exact q3
/-- a new symbol: its value, what is known of it; on the stack -/
theorem G.pushR {Z : Nat → Prop} {ρ : Nat → Value} {α : AS} {lv : LV} {st : List Value} {σ : ps} (hw : wfB α = true) (h : G Z ρ α lv st σ) {e : AE} {v : Value} (hv : okA Z (sL σ) (sK σ) e.1 v) (h4 : e.1.1 = 4 → ∀ (i : Nat) (e' : AE), α.1[i]? = some e' → e'.1.1 = 4 → ¬ ρ i = v) (hd : e.2.1 = 0 ∨ ∃ x y : Int32, v = .int x ∧ ρ (e.2.1 - 1) = .int y ∧ x.toInt = y.toInt + e.2.2 ∧ e.2.1 - 1 < α.1.length) {l : List Nat} (hl : ∀ q ∈ l, q < α.1.length) :
    G Z (ru ρ α.1.length v) (anew α e l) lv (v :: l.map ρ) σ := by
  refine ⟨?_, ?_, ?_, ?_, ?_, h.2.2.2.2.2⟩
  · intro i e' he
    have he : (α.1 ++ [e])[i]? = some e' := he
    by_cases hi : i < α.1.length
    · rw [List.getElem?_append_left hi] at he
      have q := h.1 i e' he
      have ei : ru ρ α.1.length v i = ρ i := ru_ne v (by omega)
      rw [ei]
      refine ⟨q.1, ?_⟩
      rcases q.2 with q2 | ⟨x, y, a1, a2, a3⟩
      · exact Or.inl q2
      · refine Or.inr ⟨x, y, ei.trans a1, ?_, a3⟩
        have hb := wf_dep hw i e' he
        by_cases hz : e'.2.1 = 0
        · rw [hz] at a2 ⊢
          rw [ru_ne v (by omega)]; exact a2
        · rw [ru_ne v (by omega)]; exact a2
    · have hi2 : i = α.1.length := by
        have := (List.getElem?_eq_some_iff.mp he).1
        rw [List.length_append] at this
        simp only [List.length_cons, List.length_nil] at this
        omega
      subst hi2
      rw [List.getElem?_append_right (Nat.le_refl _), Nat.sub_self] at he
      cases he
      rw [ru_self]
      refine ⟨hv, ?_⟩
      rcases hd with hd | ⟨x, y, a1, a2, a3, a4⟩
      · exact Or.inl hd
      · exact Or.inr ⟨x, y, by rw [ru_self]; exact a1, by rw [ru_ne v (by omega)]; exact a2, a3⟩
  · rw [h.2.1]
    exact List.map_congr_left (fun q hq => by rw [ru_ne v (by have := wf_lv hw q hq; omega)])
  · show v :: l.map ρ = (α.1.length :: l).map (ru ρ α.1.length v)
    rw [List.map_cons, ru_self, map_ru hl]
  · intro c hc
    have q := wf_ch hw c hc
    exact chOK_ru (h.2.2.2.1 c hc) q.1 q.2.1 q.2.2
  · intro i j e1 e2 he1 he2 t1 t2 hr
    have he1 : (α.1 ++ [e])[i]? = some e1 := he1
    have he2 : (α.1 ++ [e])[j]? = some e2 := he2
    have key : ∀ (i : Nat) (e1 : AE), (α.1 ++ [e])[i]? = some e1 → (α.1[i]? = some e1 ∧ i < α.1.length) ∨ (i = α.1.length ∧ e1 = e) := by
      intro i e1 he
      by_cases hi : i < α.1.length
      · rw [List.getElem?_append_left hi] at he
        exact Or.inl ⟨he, hi⟩
      · have := (List.getElem?_eq_some_iff.mp he).1
        rw [List.length_append] at this
        simp only [List.length_cons, List.length_nil] at this
        have hi2 : i = α.1.length := by omega
        subst hi2
        rw [List.getElem?_append_right (Nat.le_refl _), Nat.sub_self] at he
        cases he
        exact Or.inr ⟨rfl, rfl⟩
    rcases key i e1 he1 with ⟨a1, b1⟩ | ⟨rfl, rfl⟩ <;> rcases key j e2 he2 with ⟨a2, b2⟩ | ⟨rfl, rfl⟩
    · rw [ru_ne v (by omega), ru_ne v (by omega)] at hr
      exact h.2.2.2.2.1 i j e1 e2 a1 a2 t1 t2 hr
    · rw [ru_ne v (by omega), ru_self] at hr
      exact absurd hr (h4 t2 i e1 a1 t1)
    · rw [ru_self, ru_ne v (by omega)] at hr
      exact absurd hr.symm (h4 t1 j e2 a2 t2)
    · rfl
theorem G.push {Z : Nat → Prop} {ρ : Nat → Value} {α : AS} {lv : LV} {st : List Value} {σ : ps} (hw : wfB α = true) (h : G Z ρ α lv st σ) {e : AE} {v : Value} (hv : okA Z (sL σ) (sK σ) e.1 v) (h4 : ¬ e.1.1 = 4) (hd : e.2.1 = 0 ∨ ∃ x y : Int32, v = .int x ∧ ρ (e.2.1 - 1) = .int y ∧ x.toInt = y.toInt + e.2.2 ∧ e.2.1 - 1 < α.1.length) {l : List Nat} (hl : ∀ q ∈ l, q < α.1.length) :
    G Z (ru ρ α.1.length v) (anew α e l) lv (v :: l.map ρ) σ := h.pushR hw hv (fun q => absurd q h4) hd hl
theorem Inv.pushR {X : CT} {rw : Nat → Prop} {Z0 : Nat → Prop} {σ0 : ps} {vs : List Value} {Z : Nat → Prop} {ρ : Nat → Value} {α : AS} {lv : LV} {st : List Value} {σ : ps} (hw : wfB α = true) (I : Inv X rw Z0 σ0 vs Z ρ α lv st σ) {e : AE} {v : Value} (hv : okA Z (sL σ) (sK σ) e.1 v) (h4 : e.1.1 = 4 → (∀ (i : Nat) (e' : AE), α.1[i]? = some e' → e'.1.1 = 4 → ¬ ρ i = v) ∧ ∀ b, v = .ref b → b ∉ sL σ0) (hd : e.2.1 = 0 ∨ ∃ x y : Int32, v = .int x ∧ ρ (e.2.1 - 1) = .int y ∧ x.toInt = y.toInt + e.2.2 ∧ e.2.1 - 1 < α.1.length) {l : List Nat} (hl : ∀ q ∈ l, q < α.1.length) :
    Inv X rw Z0 σ0 vs Z (ru ρ α.1.length v) (anew α e l) lv (v :: l.map ρ) σ := by
  refine ⟨I.1.pushR hw hv (fun q => (h4 q).1) hd hl, I.2.1, I.2.2.1, fun i v' h => ?_, ?_, ?_⟩
  · have := (List.getElem?_eq_some_iff.mp h).1
    rw [ru_ne v (by have := I.2.2.2.2.1; omega)]
    exact I.2.2.2.1 i v' h
  · show _ ≤ (α.1 ++ [e]).length
    rw [List.length_append]
    have := I.2.2.2.2.1
    omega
  · intro i e' b he t4 hb hb0
    have he : (α.1 ++ [e])[i]? = some e' := he
    by_cases hi : i < α.1.length
    · rw [List.getElem?_append_left hi] at he
      rw [ru_ne v (by omega)] at hb
      exact I.2.2.2.2.2 i e' b he t4 hb hb0
    · have := (List.getElem?_eq_some_iff.mp he).1
      rw [List.length_append] at this
      simp only [List.length_cons, List.length_nil] at this
      have hi2 : i = α.1.length := by omega
      subst hi2
      rw [List.getElem?_append_right (Nat.le_refl _), Nat.sub_self] at he
      cases he
      rw [ru_self] at hb
      exact absurd hb0 ((h4 t4).2 b hb)
theorem Inv.push {X : CT} {rw : Nat → Prop} {Z0 : Nat → Prop} {σ0 : ps} {vs : List Value} {Z : Nat → Prop} {ρ : Nat → Value} {α : AS} {lv : LV} {st : List Value} {σ : ps} (hw : wfB α = true) (I : Inv X rw Z0 σ0 vs Z ρ α lv st σ) {e : AE} {v : Value} (hv : okA Z (sL σ) (sK σ) e.1 v) (h4 : ¬ e.1.1 = 4) (hd : e.2.1 = 0 ∨ ∃ x y : Int32, v = .int x ∧ ρ (e.2.1 - 1) = .int y ∧ x.toInt = y.toInt + e.2.2 ∧ e.2.1 - 1 < α.1.length) {l : List Nat} (hl : ∀ q ∈ l, q < α.1.length) :
    Inv X rw Z0 σ0 vs Z (ru ρ α.1.length v) (anew α e l) lv (v :: l.map ρ) σ := I.pushR hw hv (fun q => absurd q h4) hd hl
theorem Inv.st {X : CT} {rw : Nat → Prop} {Z0 : Nat → Prop} {σ0 : ps} {vs : List Value} {Z : Nat → Prop} {ρ : Nat → Value} {α : AS} {lv : LV} {st : List Value} {σ : ps} (I : Inv X rw Z0 σ0 vs Z ρ α lv st σ) (l : List Nat) : Inv X rw Z0 σ0 vs Z ρ (asst α l) lv (l.map ρ) σ := ⟨I.1.sst l, I.2.1, I.2.2.1, I.2.2.2⟩
