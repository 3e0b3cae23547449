theorem z_f_iload {q : PI} {lv lv' : LV} {st st' : List Value} {σ σ' : ps} {pc' : Nat} (h : f_iload q lv st σ = some (pc', lv', st', σ')) : σ' = σ := by
  unfold f_iload at h
  repeat' split at h
  all_goals first | (cases h; done) | (cases h; rfl)
theorem z_f_lload {q : PI} {lv lv' : LV} {st st' : List Value} {σ σ' : ps} {pc' : Nat} (h : f_lload q lv st σ = some (pc', lv', st', σ')) : σ' = σ := by
  unfold f_lload at h
  repeat' split at h
  all_goals first | (cases h; done) | (cases h; rfl)
theorem z_f_aload {q : PI} {lv lv' : LV} {st st' : List Value} {σ σ' : ps} {pc' : Nat} (h : f_aload q lv st σ = some (pc', lv', st', σ')) : σ' = σ := by
  unfold f_aload at h
  repeat' split at h
  all_goals first | (cases h; done) | (cases h; rfl)
theorem z_f_istore {q : PI} {lv lv' : LV} {st st' : List Value} {σ σ' : ps} {pc' : Nat} (h : f_istore q lv st σ = some (pc', lv', st', σ')) : σ' = σ := by
  unfold f_istore at h
  repeat' split at h
  all_goals first | (cases h; done) | (cases h; rfl)
theorem z_f_lstore {q : PI} {lv lv' : LV} {st st' : List Value} {σ σ' : ps} {pc' : Nat} (h : f_lstore q lv st σ = some (pc', lv', st', σ')) : σ' = σ := by
  unfold f_lstore at h
  repeat' split at h
  all_goals first | (cases h; done) | (cases h; rfl)
theorem z_f_astore {q : PI} {lv lv' : LV} {st st' : List Value} {σ σ' : ps} {pc' : Nat} (h : f_astore q lv st σ = some (pc', lv', st', σ')) : σ' = σ := by
  unfold f_astore at h
  repeat' split at h
  all_goals first | (cases h; done) | (cases h; rfl)
theorem z_f_iinc {q : PI} {lv lv' : LV} {st st' : List Value} {σ σ' : ps} {pc' : Nat} (h : f_iinc q lv st σ = some (pc', lv', st', σ')) : σ' = σ := by
  unfold f_iinc at h
  repeat' split at h
  all_goals first | (cases h; done) | (cases h; rfl)
theorem z_f_iop {q : PI} {lv lv' : LV} {st st' : List Value} {σ σ' : ps} {pc' : Nat} (h : f_iop q lv st σ = some (pc', lv', st', σ')) : σ' = σ := by
  unfold f_iop at h
  repeat' split at h
  all_goals first | (cases h; done) | (cases h; rfl)
theorem z_f_lop {q : PI} {lv lv' : LV} {st st' : List Value} {σ σ' : ps} {pc' : Nat} (h : f_lop q lv st σ = some (pc', lv', st', σ')) : σ' = σ := by
  unfold f_lop at h
  repeat' split at h
  all_goals first | (cases h; done) | (cases h; rfl)
theorem z_f_lcmp {q : PI} {lv lv' : LV} {st st' : List Value} {σ σ' : ps} {pc' : Nat} (h : f_lcmp q lv st σ = some (pc', lv', st', σ')) : σ' = σ := by
  unfold f_lcmp at h
  repeat' split at h
  all_goals first | (cases h; done) | (cases h; rfl)
theorem z_f_i2l {q : PI} {lv lv' : LV} {st st' : List Value} {σ σ' : ps} {pc' : Nat} (h : f_i2l q lv st σ = some (pc', lv', st', σ')) : σ' = σ := by
  unfold f_i2l at h
  repeat' split at h
  all_goals first | (cases h; done) | (cases h; rfl)
theorem z_f_l2i {q : PI} {lv lv' : LV} {st st' : List Value} {σ σ' : ps} {pc' : Nat} (h : f_l2i q lv st σ = some (pc', lv', st', σ')) : σ' = σ := by
  unfold f_l2i at h
  repeat' split at h
  all_goals first | (cases h; done) | (cases h; rfl)
theorem z_f_i2b {q : PI} {lv lv' : LV} {st st' : List Value} {σ σ' : ps} {pc' : Nat} (h : f_i2b q lv st σ = some (pc', lv', st', σ')) : σ' = σ := by
  unfold f_i2b at h
  repeat' split at h
  all_goals first | (cases h; done) | (cases h; rfl)
theorem z_f_if {q : PI} {lv lv' : LV} {st st' : List Value} {σ σ' : ps} {pc' : Nat} (h : f_if q lv st σ = some (pc', lv', st', σ')) : σ' = σ := by
  unfold f_if at h
  repeat' split at h
  all_goals first | (cases h; done) | (cases h; rfl)
theorem z_f_icmp {q : PI} {lv lv' : LV} {st st' : List Value} {σ σ' : ps} {pc' : Nat} (h : f_icmp q lv st σ = some (pc', lv', st', σ')) : σ' = σ := by
  unfold f_icmp at h
  repeat' split at h
  all_goals first | (cases h; done) | (cases h; rfl)
theorem z_f_ifnull {q : PI} {lv lv' : LV} {st st' : List Value} {σ σ' : ps} {pc' : Nat} (h : f_ifnull q lv st σ = some (pc', lv', st', σ')) : σ' = σ := by
  unfold f_ifnull at h
  repeat' split at h
  all_goals first | (cases h; done) | (cases h; rfl)
theorem z_f_ifnonnull {q : PI} {lv lv' : LV} {st st' : List Value} {σ σ' : ps} {pc' : Nat} (h : f_ifnonnull q lv st σ = some (pc', lv', st', σ')) : σ' = σ := by
  unfold f_ifnonnull at h
  repeat' split at h
  all_goals first | (cases h; done) | (cases h; rfl)
theorem z_f_switch {q : PI} {lv lv' : LV} {st st' : List Value} {σ σ' : ps} {pc' : Nat} (h : f_switch q lv st σ = some (pc', lv', st', σ')) : σ' = σ := by
  unfold f_switch at h
  repeat' split at h
  all_goals first | (cases h; done) | (cases h; rfl)
theorem z_f_get {q : PI} {lv lv' : LV} {st st' : List Value} {σ σ' : ps} {pc' : Nat} (h : f_get q lv st σ = some (pc', lv', st', σ')) : σ' = σ := by
  unfold f_get at h
  repeat' split at h
  all_goals first | (cases h; done) | (cases h; rfl)
theorem z_f_iald {q : PI} {lv lv' : LV} {st st' : List Value} {σ σ' : ps} {pc' : Nat} (h : f_iald q lv st σ = some (pc', lv', st', σ')) : σ' = σ := by
  unfold f_iald at h
  repeat' split at h
  all_goals first | (cases h; done) | (cases h; rfl)
theorem z_f_bald {q : PI} {lv lv' : LV} {st st' : List Value} {σ σ' : ps} {pc' : Nat} (h : f_bald q lv st σ = some (pc', lv', st', σ')) : σ' = σ := by
  unfold f_bald at h
  repeat' split at h
  all_goals first | (cases h; done) | (cases h; rfl)
theorem z_f_lald {q : PI} {lv lv' : LV} {st st' : List Value} {σ σ' : ps} {pc' : Nat} (h : f_lald q lv st σ = some (pc', lv', st', σ')) : σ' = σ := by
  unfold f_lald at h
  repeat' split at h
  all_goals first | (cases h; done) | (cases h; rfl)
theorem z_f_aald {q : PI} {lv lv' : LV} {st st' : List Value} {σ σ' : ps} {pc' : Nat} (h : f_aald q lv st σ = some (pc', lv', st', σ')) : σ' = σ := by
  unfold f_aald at h
  repeat' split at h
  all_goals first | (cases h; done) | (cases h; rfl)
theorem z_f_pop {q : PI} {lv lv' : LV} {st st' : List Value} {σ σ' : ps} {pc' : Nat} (h : f_pop q lv st σ = some (pc', lv', st', σ')) : σ' = σ := by
  unfold f_pop at h
  repeat' split at h
  all_goals first | (cases h; done) | (cases h; rfl)
theorem z_f_dup {q : PI} {lv lv' : LV} {st st' : List Value} {σ σ' : ps} {pc' : Nat} (h : f_dup q lv st σ = some (pc', lv', st', σ')) : σ' = σ := by
  unfold f_dup at h
  repeat' split at h
  all_goals first | (cases h; done) | (cases h; rfl)
theorem z_f_dup2 {q : PI} {lv lv' : LV} {st st' : List Value} {σ σ' : ps} {pc' : Nat} (h : f_dup2 q lv st σ = some (pc', lv', st', σ')) : σ' = σ := by
  unfold f_dup2 at h
  repeat' split at h
  all_goals first | (cases h; done) | (cases h; rfl)
theorem z_f_imin {q : PI} {lv lv' : LV} {st st' : List Value} {σ σ' : ps} {pc' : Nat} (h : f_imin q lv st σ = some (pc', lv', st', σ')) : σ' = σ := by
  unfold f_imin at h
  repeat' split at h
  all_goals first | (cases h; done) | (cases h; rfl)
theorem z_f_lmin {q : PI} {lv lv' : LV} {st st' : List Value} {σ σ' : ps} {pc' : Nat} (h : f_lmin q lv st σ = some (pc', lv', st', σ')) : σ' = σ := by
  unfold f_lmin at h
  repeat' split at h
  all_goals first | (cases h; done) | (cases h; rfl)
theorem z_f_oinit {q : PI} {lv lv' : LV} {st st' : List Value} {σ σ' : ps} {pc' : Nat} (h : f_oinit q lv st σ = some (pc', lv', st', σ')) : σ' = σ := by
  unfold f_oinit at h
  repeat' split at h
  all_goals first | (cases h; done) | (cases h; rfl)
def pureL : List Nat := [0, 1, 2, 3, 4, 5, 6, 7, 8, 9, 10, 11, 12, 13, 14, 15, 16, 17, 18, 19, 20, 21, 22, 24, 25, 26, 27, 33, 34, 35, 43, 44, 45]
theorem pst_pure {q : PI} {lv lv' : LV} {st st' : List Value} {σ σ' : ps} {pc' : Nat} (hq : q.1 ∈ pureL) (h : pst q lv st σ = some (pc', lv', st', σ')) : σ' = σ := by
  obtain ⟨op, nx, a, b, ts⟩ := q
  have hq : op ∈ pureL := hq
  unfold pureL at hq
  simp only [List.mem_cons, List.not_mem_nil, or_false] at hq
  rcases hq with e | e | e | e | e | e | e | e | e | e | e | e | e | e | e | e | e | e | e | e | e | e | e | e | e | e | e | e | e | e | e | e | e
  · subst e; cases h; rfl
  · subst e; cases h; rfl
  · subst e; cases h; rfl
  · subst e; exact z_f_iload (show f_iload (3, nx, a, b, ts) lv st σ = _ from h)
  · subst e; exact z_f_lload (show f_lload (4, nx, a, b, ts) lv st σ = _ from h)
  · subst e; exact z_f_aload (show f_aload (5, nx, a, b, ts) lv st σ = _ from h)
  · subst e; exact z_f_istore (show f_istore (6, nx, a, b, ts) lv st σ = _ from h)
  · subst e; exact z_f_lstore (show f_lstore (7, nx, a, b, ts) lv st σ = _ from h)
  · subst e; exact z_f_astore (show f_astore (8, nx, a, b, ts) lv st σ = _ from h)
  · subst e; exact z_f_iinc (show f_iinc (9, nx, a, b, ts) lv st σ = _ from h)
  · subst e; exact z_f_iop (show f_iop (10, nx, a, b, ts) lv st σ = _ from h)
  · subst e; exact z_f_lop (show f_lop (11, nx, a, b, ts) lv st σ = _ from h)
  · subst e; exact z_f_lcmp (show f_lcmp (12, nx, a, b, ts) lv st σ = _ from h)
  · subst e; exact z_f_i2l (show f_i2l (13, nx, a, b, ts) lv st σ = _ from h)
  · subst e; exact z_f_l2i (show f_l2i (14, nx, a, b, ts) lv st σ = _ from h)
  · subst e; exact z_f_i2b (show f_i2b (15, nx, a, b, ts) lv st σ = _ from h)
  · subst e; exact z_f_if (show f_if (16, nx, a, b, ts) lv st σ = _ from h)
  · subst e; exact z_f_icmp (show f_icmp (17, nx, a, b, ts) lv st σ = _ from h)
  · subst e; exact z_f_ifnull (show f_ifnull (18, nx, a, b, ts) lv st σ = _ from h)
  · subst e; exact z_f_ifnonnull (show f_ifnonnull (19, nx, a, b, ts) lv st σ = _ from h)
  · subst e; cases h; rfl
  · subst e; exact z_f_switch (show f_switch (21, nx, a, b, ts) lv st σ = _ from h)
  · subst e; exact z_f_get (show f_get (22, nx, a, b, ts) lv st σ = _ from h)
  · subst e; exact z_f_iald (show f_iald (24, nx, a, b, ts) lv st σ = _ from h)
  · subst e; exact z_f_bald (show f_bald (25, nx, a, b, ts) lv st σ = _ from h)
  · subst e; exact z_f_lald (show f_lald (26, nx, a, b, ts) lv st σ = _ from h)
  · subst e; exact z_f_aald (show f_aald (27, nx, a, b, ts) lv st σ = _ from h)
  · subst e; exact z_f_pop (show f_pop (33, nx, a, b, ts) lv st σ = _ from h)
  · subst e; exact z_f_dup (show f_dup (34, nx, a, b, ts) lv st σ = _ from h)
  · subst e; exact z_f_dup2 (show f_dup2 (35, nx, a, b, ts) lv st σ = _ from h)
  · subst e; exact z_f_imin (show f_imin (43, nx, a, b, ts) lv st σ = _ from h)
  · subst e; exact z_f_lmin (show f_lmin (44, nx, a, b, ts) lv st σ = _ from h)
  · subst e; exact z_f_oinit (show f_oinit (45, nx, a, b, ts) lv st σ = _ from h)
def pureQ (cs : List Nat) (q : PI) : Bool := decide (q.1 ∈ pureL) || (decide (37 ≤ q.1 ∧ q.1 ≤ 40) || (decide (q.1 = 36) && cs.contains q.2.2.1.toNat))
def pureM (mi : Nat) : Prop := ∀ (n : Nat) (lv : LV) (σ : ps) (x : Option Value × ps), prun n mi 0 lv [] σ = some x → x.2 = σ
theorem plkI_all {f : PI → Bool} : ∀ (l : List (Nat × PI)), l.all (fun e => f e.2) = true → ∀ (pc : Nat) (q : PI), plkI l pc = some q → f q = true := by
  intro l
  induction l with
  | nil => intro _ pc q h; cases h
  | cons e r ih =>
    intro h pc q hq
    rw [List.all_cons, Bool.and_eq_true] at h
    obtain ⟨j, w⟩ := e
    unfold plkI at hq
    split at hq
    · cases hq; exact h.1
    · exact ih h.2 pc q hq
theorem prun_pure {mi : Nat} {cs : List Nat} (hm : mi < 203) (hall : (pg mi).all (fun e => pureQ cs e.2) = true) (hcs : ∀ c ∈ cs, pureM c) : ∀ (n pc : Nat) (lv : LV) (st : List Value) (σ : ps) (x : Option Value × ps), prun n mi pc lv st σ = some x → x.2 = σ := by
  intro n
  induction n with
  | zero => intro pc lv st σ x h; cases h
  | succ n ih =>
    intro pc lv st σ x h
    unfold prun at h
    cases hp : pins mi pc with
    | none => rw [hp] at h; cases h
    | some q =>
      rw [hp] at h
      have hq : pureQ cs q = true := by
        unfold pins at hp
        rw [if_pos hm] at hp
        exact plkI_all _ hall pc q hp
      simp only at h
      by_cases e36 : q.1 = 36
      · rw [if_pos e36] at h
        have hc : q.2.2.1.toNat ∈ cs := by
          unfold pureQ at hq
          rw [e36] at hq
          have e1 : decide (36 ∈ pureL) = false := by decide
          have e2 : decide (37 ≤ 36 ∧ 36 ≤ 40) = false := by decide
          rw [e1, e2] at hq
          simp only [Bool.false_or, decide_true, Bool.true_and] at hq
          exact List.contains_iff_mem.mp hq
        split at h
        · split at h
          · cases h
          · rename_i r σ1 hr
            have e1 : σ1 = σ := hcs _ hc _ _ _ _ hr
            rw [e1] at h
            exact ih _ _ _ _ _ h
        · cases h
      · rw [if_neg e36] at h
        split at h
        · cases h; rfl
        · rename_i hr
          split at h
          · cases h
          · rename_i pc' lv' st' σ' hs
            have hq2 : q.1 ∈ pureL := by
              unfold pureQ at hq
              rw [decide_eq_false e36, Bool.false_and, Bool.or_false, Bool.or_eq_true, decide_eq_true_eq, decide_eq_true_eq] at hq
              rcases hq with hq | hq
              · exact hq
              · exfalso
                obtain ⟨op, nx, a, b, ts⟩ := q
                have hq : 37 ≤ op ∧ op ≤ 40 := hq
                have : op = 37 ∨ op = 38 ∨ op = 39 ∨ op = 40 := by omega
                rcases this with e | e | e | e <;> subst e <;> cases hs
            have e1 := pst_pure hq2 hs
            rw [e1] at h
            exact ih _ _ _ _ _ h
theorem pure_entryDue : pureM 162 := fun n lv σ x h => prun_pure (cs := []) (by decide) (by decide +kernel) (fun c hc => by cases hc) n 0 lv [] σ x h
theorem pure_nextDue : pureM 165 := fun n lv σ x h => prun_pure (cs := [162]) (by decide) (by decide +kernel) (fun c hc => by rw [List.mem_singleton] at hc; rw [hc]; exact pure_entryDue) n 0 lv [] σ x h
section
variable {Z : Nat → Prop} {t : Nat} {A : Nat → Nat} {σ : ps}
theorem Wld.tim (W : Wld t A σ) (v : Int64) : Wld t A (sPut σ t 0 (.long v)) := by
  obtain ⟨w1, w2, w3, w4, w5⟩ := W
  refine ⟨w1, w2, fun j hj => ?_, fun j hj => ?_, ?_⟩
  · have : ¬ j = 0 := by intro e; subst e; revert hj; decide
    rw [sPut_self]; simp only; rw [if_neg this]; exact w3 j hj
  · have : ¬ j = 0 := by intro e; subst e; revert hj; decide
    rw [sPut_self]; simp only; rw [if_neg this]; exact w4 j hj
  · rw [sPut_self]; exact ⟨v, if_pos rfl⟩
theorem SP.tim (W : Wld t A σ) (v : Int64) : SP t A σ (sPut σ t 0 (.long v)) := ⟨W.tim v, rfl, rfl, rfl, rfl, fun a j q _ => by rw [sPut_ne _ _ q]⟩
theorem y_putl {mi pc nx : Nat} {lv : LV} {r : List Value} {P : Option Value → ps → Prop} {ts : List Nat} {v : Int64} (W : WT Z t A σ) (hq : pins mi pc = some (23, nx, 13, 0, ts)) (h : ∀ σ', WT Z t A σ' → SP t A σ σ' → vw t A σ' = up (vw t A σ) 0 0 (.long v) → wp mi nx lv r σ' P) : wp mi pc lv (.long v :: .ref t :: r) σ P := by
  have W' : WT Z t A (sPut σ t 0 (.long v)) := W.st (SP.tim W.W v) (Typed.put W.1 (fun _ => by rw [W.2.2.2.1]; exact okA.lng v)) (fun _ h => h)
  refine wp_step hq (fun e => absurd (show (23 : Nat) = 36 from e) (by decide)) (pret_none (fun e => absurd (show 37 ≤ (23 : Nat) ∧ (23 : Nat) ≤ 40 from e) (by decide))) ?_ (h _ W' (SP.tim W.W v) (vw_fld W.W (by decide) _))
  show f_put (23, nx, 13, 0, ts) lv (.long v :: .ref t :: r) σ = _
  unfold f_put
  have hp : pis σ t (13 : Int).toNat = true := W.isp
  have hf : pfit (tyS (13 : Int).toNat (0 : Int).toNat) (.long v) = true := rfl
  simp only
  rw [hp, hf]
  rfl
theorem ms_ok (W : WT Z t A σ) (I : MsI (vw t A σ)) (hP : P2 (vw t A σ) ≤ 790) : wp 166 0 (lv_args 0 [.ref t]) [] σ (fun r σ' => r = none ∧ ∃ Z' : Nat → Prop, WT Z' t A σ' ∧ (∀ a, Z a → Z' a) ∧ SP t A σ σ' ∧ (∀ j q, kept2 j → vw t A σ' j q = vw t A σ j q) ∧ MsI (vw t A σ') ∧ (gI (vw t A σ') 47 0).toInt = 0) := by
  show wp 166 0 [(0, .ref t)] [] σ _
  refine y_ic (by decide +kernel : pins 166 0 = some (0, 1, 1, 0, [])) (by decide) fun w0 e0 i0 => ?_
  refine x_is (by decide +kernel : pins 166 1 = some (6, 2, 1, 0, [])) ?_
  show wp 166 2 [(1, .int w0), (0, .ref t)] [] σ _
  refine x_il (by decide +kernel : pins 166 2 = some (3, 3, 1, 0, [])) (v := w0) rfl ?_
  refine y_if0 (by decide +kernel : pins 166 3 = some (16, 6, 0, ((211 : Nat) : Int), [])) (fun c3 => ?_) (fun c3 => ?_)
  · exfalso; omega
  · exact ms_loop _ w0 σ Z W I hP (Nat.le_refl _) (fun σ' Z' W' zz S K I' e => ⟨rfl, Z', W', zz, S, K, I', e⟩)
theorem ent_1 (W : WT Z t A σ) {C : CT} (hC : cEnv C = [(2,13,0,0,0)]) (hc : cCh C = []) : EntOK C Z σ [.ref t] := by
  refine ⟨by rw [hC]; rfl, fun i t' v h1 h2 => ?_, fun c hc' => (by rw [hc] at hc'; cases hc'), fun i t' h1 h4 => ?_⟩
  · rw [hC] at h1
    have hi : i < 1 := (List.getElem?_eq_some_iff.mp h2).1
    match i, hi, h1, h2 with
    | 0, _, h1, h2 => cases h1; cases h2; exact Or.inr (Or.inr (Or.inl ⟨rfl, t, rfl, W.2.2.1, W.2.2.2.1⟩))
  · rw [hC] at h1
    have hi : i < 1 := (List.getElem?_eq_some_iff.mp h1).1
    match i, hi, h1 with
    | 0, _, h1 => cases h1; cases h4
theorem nd_ok (W : WT Z t A σ) : wp 165 0 (lv_args 0 [.ref t]) [] σ (fun r σ' => σ' = σ ∧ ∃ w : Int64, r = some (.long w)) := by
  obtain ⟨n, r, σ', run, post⟩ := tV274 Z σ [.ref t] W.1 W.2.1 (ent_1 W rfl rfl) (fun h => absurd rfl h)
  have run : prun n 165 0 (lv_args 0 [.ref t]) [] σ = some (r, σ') := run
  refine ⟨n, r, σ', run, pure_nextDue _ _ _ _ run, ?_⟩
  obtain ⟨Z', _, _, _, _, alt, hal, ao⟩ := post
  have hal : alt ∈ cAlt tC274 := hal
  rw [show cAlt tC274 = [([(2,13,0,0,0)],[(1,(-9223372036854775808),9223372036854775807,0,0)],[])] from rfl, List.mem_singleton] at hal
  subst hal
  rcases ao.2.2.1 with ⟨q, _⟩ | ⟨t2, v, q, er, ov⟩
  · cases q
  · cases q
    obtain ⟨x, ex, _⟩ := ov.l rfl
    exact ⟨x, by rw [er, ex]⟩
end
theorem lcE {u v : Int64} {w : Int32} (h : (u.toInt < v.toInt ∧ w.toInt = -1) ∨ (u.toInt = v.toInt ∧ w.toInt = 0) ∨ (v.toInt < u.toInt ∧ w.toInt = 1)) : (0 ≤ w.toInt ↔ v.toInt ≤ u.toInt) ∧ (w.toInt ≤ 0 ↔ u.toInt ≤ v.toInt) := by omega
/-- what a go leaves -/
def GoR (t : Nat) (A : Nat → Nat) (Z : Nat → Prop) (σ σ' : ps) (Z' : Nat → Prop) : Prop := WT Z' t A σ' ∧ (∀ a, Z a → Z' a) ∧ SP t A σ σ' ∧ (∀ j q, kept2 j → ¬ j = 0 → ¬ j = 3 → vw t A σ' j q = vw t A σ j q) ∧ MsI (vw t A σ')
set_option maxHeartbeats 2000000 in
theorem go_loop {t : Nat} {A : Nat → Nat} {P : Option Value → ps → Prop} {n : Int32} {to : Int64} (hto : to.toInt ≤ 1000000000) : ∀ (D : Nat) (σ : ps) (Z : Nat → Prop), WT Z t A σ → MsI (vw t A σ) → (gI (vw t A σ) 47 0).toInt = 0 → (gL (vw t A σ) 0 0).toInt ≤ to.toInt → to.toInt - (gL (vw t A σ) 0 0).toInt ≤ D → (∀ (σ' : ps) (Z' : Nat → Prop), GoR t A Z σ σ' Z' → (gI (vw t A σ') 47 0).toInt = 0 → (gL (vw t A σ') 0 0).toInt = to.toInt → wp 167 88 [(2, .long to), (1, .int n), (0, .ref t)] [] σ' P) → wp 167 30 [(2, .long to), (1, .int n), (0, .ref t)] [] σ P := by
  intro D
  induction D with
  | zero =>
    intro σ Z W I h0 hle hD cont
    refine x_al (by decide +kernel : pins 167 30 = some (5, 31, 0, 0, [])) (v := t) rfl ?_
    refine y_fl W (by decide +kernel : pins 167 31 = some (22, 34, 13, 0, [])) fun w31 e31 => ?_
    refine y_ll (by decide +kernel : pins 167 34 = some (4, 35, 2, 0, [])) (v := to) rfl ?_
    refine y_lcmp (by decide +kernel : pins 167 35 = some (12, 36, 0, 0, [])) fun w35 e35 => ?_
    refine y_if3 (by decide +kernel : pins 167 36 = some (16, 39, 3, ((88 : Nat) : Int), [])) (fun c36 => ?_) (fun c36 => ?_)
    · exact cont σ Z ⟨W, fun _ h => h, SP.rf W.W, fun _ _ _ _ _ => rfl, I⟩ h0 (by rw [e31] at e35; omega)
    · exfalso; rw [e31] at e35; omega
  | succ D ih =>
    intro σ Z W I h0 hle hD cont
    refine x_al (by decide +kernel : pins 167 30 = some (5, 31, 0, 0, [])) (v := t) rfl ?_
    refine y_fl W (by decide +kernel : pins 167 31 = some (22, 34, 13, 0, [])) fun w31 e31 => ?_
    refine y_ll (by decide +kernel : pins 167 34 = some (4, 35, 2, 0, [])) (v := to) rfl ?_
    refine y_lcmp (by decide +kernel : pins 167 35 = some (12, 36, 0, 0, [])) fun w35 e35 => ?_
    refine y_if3 (by decide +kernel : pins 167 36 = some (16, 39, 3, ((88 : Nat) : Int), [])) (fun c36 => ?_) (fun c36 => ?_)
    · exact cont σ Z ⟨W, fun _ h => h, SP.rf W.W, fun _ _ _ _ _ => rfl, I⟩ h0 (by rw [e31] at e35; omega)
    · refine x_al (by decide +kernel : pins 167 39 = some (5, 40, 0, 0, [])) (v := t) rfl ?_
      refine wp_call (q := (36, 43, 165, 0, [1])) (by decide +kernel) rfl ?_ (nd_ok W) ?_
      · have hp : pis σ t (ow 165) = true := W.isp
        show (true && (true && (decide (1 ≤ mL 165) && pis σ t (ow 165)))) = true
        rw [hp]
        decide +kernel
      rintro r σ0 ⟨es, due, er⟩
      subst er; rw [es]
      show wp 167 43 [(2, .long to), (1, .int n), (0, .ref t)] [.long due] σ _
      refine y_ls (by decide +kernel : pins 167 43 = some (7, 45, 4, 0, [])) ?_
      show wp 167 45 [(4, .long due), (2, .long to), (1, .int n), (0, .ref t)] [] σ _
      refine x_al (by decide +kernel : pins 167 45 = some (5, 46, 0, 0, [])) (v := t) rfl ?_
      refine y_ll (by decide +kernel : pins 167 46 = some (4, 48, 4, 0, [])) (v := due) rfl ?_
      refine y_ll (by decide +kernel : pins 167 48 = some (4, 49, 2, 0, [])) (v := to) rfl ?_
      refine y_lcmp (by decide +kernel : pins 167 49 = some (12, 50, 0, 0, [])) fun w49 e49 => ?_
      refine y_if5 (by decide +kernel : pins 167 50 = some (16, 53, 5, ((57 : Nat) : Int), [])) (fun c50 => ?_) (fun c50 => ?_)
      · refine y_ll (by decide +kernel : pins 167 57 = some (4, 59, 4, 0, [])) (v := due) rfl ?_
        refine x_al (by decide +kernel : pins 167 59 = some (5, 60, 0, 0, [])) (v := t) rfl ?_
        refine y_fl W (by decide +kernel : pins 167 60 = some (22, 63, 13, 0, [])) fun w60 e60 => ?_
        refine y_lcmp (by decide +kernel : pins 167 63 = some (12, 64, 0, 0, [])) fun w63 e63 => ?_
        refine y_if5 (by decide +kernel : pins 167 64 = some (16, 67, 5, ((72 : Nat) : Int), [])) (fun c64 => ?_) (fun c64 => ?_)
        · refine x_al (by decide +kernel : pins 167 72 = some (5, 73, 0, 0, [])) (v := t) rfl ?_
          refine y_fl W (by decide +kernel : pins 167 73 = some (22, 76, 13, 0, [])) fun w73 e73 => ?_
          refine y_lc (by decide +kernel : pins 167 76 = some (1, 77, 1, 0, [])) fun w76 e76 => ?_
          refine y_ladd (by decide +kernel : pins 167 77 = some (11, 78, 0, 0, [])) fun w77 e77 => ?_
          refine y_putl W (by decide +kernel : pins 167 78 = some (23, 81, 13, 0, [])) fun s78 W78 S78 u78 => ?_
          refine x_al (by decide +kernel : pins 167 81 = some (5, 82, 0, 0, [])) (v := t) rfl ?_
          have g0 : gL (vw t A s78) 0 0 = w77 := by rw [u78, gL_eq]
          have f78 : ∀ j q, ¬ j = 0 → vw t A s78 j q = vw t A σ j q := fun j q hj => by rw [u78, up_ne hj]
          have g31 : w31.toInt = (gL (vw t A σ) 0 0).toInt := by rw [e31]
          have q77 : w77.toInt = (gL (vw t A σ) 0 0).toInt + 1 := by have := I.1; rw [e77, e73, e76, lw_addc this.1 this.2 (by decide) (by decide)]
          have nT : (gL (vw t A σ) 0 0).toInt < w77.toInt ∧ w77.toInt ≤ to.toInt := by
            omega
          have i0 := I.1
          have I78 : MsI (vw t A s78) := ⟨by rw [g0]; omega, I.2.1.of fun q => ⟨f78 26 q (by decide), f78 28 q (by decide)⟩, I.2.2.of fun q => ⟨f78 32 q (by decide), f78 39 q (by decide)⟩⟩
          have m78 : (gI (vw t A s78) 47 0).toInt = 0 := by rw [gI_of (f78 47 0 (by decide))]; exact h0
          refine wp_call (q := (36, 85, 166, 0, [1])) (by decide +kernel) rfl ?_ (ms_ok W78 I78 (by have := P2_0 (V := vw t A s78) (by omega); omega)) ?_
          · have hp : pis s78 t (ow 166) = true := W78.isp
            show (true && (true && (decide (1 ≤ mL 166) && pis s78 t (ow 166)))) = true
            rw [hp]
            decide +kernel
          rintro r σ1 ⟨er, Z1, W1, zz1, S1, K1, I1, m1⟩
          subst er
          show wp 167 85 [(4, .long due), (2, .long to), (1, .int n), (0, .ref t)] [] σ1 _
          refine x_go (by decide +kernel : pins 167 85 = some (20, 88, 0, ((30 : Nat) : Int), [])) ?_
          refine wp_lv (lv := [(2, .long to), (1, .int n), (0, .ref t)]) ?_ (lvLe.cons (lvLe.cons (lvLe.cons lvLe.nil rfl) rfl) rfl) (by decide : ([2, 1, 0] : List Nat).Nodup) (by decide : ([4, 2, 1, 0] : List Nat).Nodup)
          have g1 : (gL (vw t A σ1) 0 0).toInt = w77.toInt := by rw [gL_of (K1 0 0 (Or.inl rfl)), g0]
          refine ih σ1 Z1 W1 I1 m1 (by omega) (by omega) (fun σ' Z' ⟨a1, a2, a3, a4, a5⟩ b c => cont σ' Z' ⟨a1, fun a ha => a2 a (zz1 a ha), ((S78.tr S1).tr a3), fun j q hj j0 j3 => ?_, a5⟩ b c)
          rw [a4 j q hj j0 j3, K1 j q hj, f78 j q j0]
        · refine y_ll (by decide +kernel : pins 167 67 = some (4, 69, 4, 0, [])) (v := due) rfl ?_
          refine x_go (by decide +kernel : pins 167 69 = some (20, 72, 0, ((78 : Nat) : Int), [])) ?_
          refine y_putl W (by decide +kernel : pins 167 78 = some (23, 81, 13, 0, [])) fun s78 W78 S78 u78 => ?_
          refine x_al (by decide +kernel : pins 167 81 = some (5, 82, 0, 0, [])) (v := t) rfl ?_
          have g0 : gL (vw t A s78) 0 0 = due := by rw [u78, gL_eq]
          have f78 : ∀ j q, ¬ j = 0 → vw t A s78 j q = vw t A σ j q := fun j q hj => by rw [u78, up_ne hj]
          have g31 : w31.toInt = (gL (vw t A σ) 0 0).toInt := by rw [e31]
          have nT : (gL (vw t A σ) 0 0).toInt < due.toInt ∧ due.toInt ≤ to.toInt := by
            have g60 : w60.toInt = (gL (vw t A σ) 0 0).toInt := by rw [e60]
            omega
          have i0 := I.1
          have I78 : MsI (vw t A s78) := ⟨by rw [g0]; omega, I.2.1.of fun q => ⟨f78 26 q (by decide), f78 28 q (by decide)⟩, I.2.2.of fun q => ⟨f78 32 q (by decide), f78 39 q (by decide)⟩⟩
          have m78 : (gI (vw t A s78) 47 0).toInt = 0 := by rw [gI_of (f78 47 0 (by decide))]; exact h0
          refine wp_call (q := (36, 85, 166, 0, [1])) (by decide +kernel) rfl ?_ (ms_ok W78 I78 (by have := P2_0 (V := vw t A s78) (by omega); omega)) ?_
          · have hp : pis s78 t (ow 166) = true := W78.isp
            show (true && (true && (decide (1 ≤ mL 166) && pis s78 t (ow 166)))) = true
            rw [hp]
            decide +kernel
          rintro r σ1 ⟨er, Z1, W1, zz1, S1, K1, I1, m1⟩
          subst er
          show wp 167 85 [(4, .long due), (2, .long to), (1, .int n), (0, .ref t)] [] σ1 _
          refine x_go (by decide +kernel : pins 167 85 = some (20, 88, 0, ((30 : Nat) : Int), [])) ?_
          refine wp_lv (lv := [(2, .long to), (1, .int n), (0, .ref t)]) ?_ (lvLe.cons (lvLe.cons (lvLe.cons lvLe.nil rfl) rfl) rfl) (by decide : ([2, 1, 0] : List Nat).Nodup) (by decide : ([4, 2, 1, 0] : List Nat).Nodup)
          have g1 : (gL (vw t A σ1) 0 0).toInt = due.toInt := by rw [gL_of (K1 0 0 (Or.inl rfl)), g0]
          refine ih σ1 Z1 W1 I1 m1 (by omega) (by omega) (fun σ' Z' ⟨a1, a2, a3, a4, a5⟩ b c => cont σ' Z' ⟨a1, fun a ha => a2 a (zz1 a ha), ((S78.tr S1).tr a3), fun j q hj j0 j3 => ?_, a5⟩ b c)
          rw [a4 j q hj j0 j3, K1 j q hj, f78 j q j0]
      · refine y_ll (by decide +kernel : pins 167 53 = some (4, 54, 2, 0, [])) (v := to) rfl ?_
        refine x_go (by decide +kernel : pins 167 54 = some (20, 57, 0, ((78 : Nat) : Int), [])) ?_
        refine y_putl W (by decide +kernel : pins 167 78 = some (23, 81, 13, 0, [])) fun s78 W78 S78 u78 => ?_
        refine x_al (by decide +kernel : pins 167 81 = some (5, 82, 0, 0, [])) (v := t) rfl ?_
        have g0 : gL (vw t A s78) 0 0 = to := by rw [u78, gL_eq]
        have f78 : ∀ j q, ¬ j = 0 → vw t A s78 j q = vw t A σ j q := fun j q hj => by rw [u78, up_ne hj]
        have g31 : w31.toInt = (gL (vw t A σ) 0 0).toInt := by rw [e31]
        have nT : (gL (vw t A σ) 0 0).toInt < to.toInt ∧ to.toInt ≤ to.toInt := by
          omega
        have i0 := I.1
        have I78 : MsI (vw t A s78) := ⟨by rw [g0]; omega, I.2.1.of fun q => ⟨f78 26 q (by decide), f78 28 q (by decide)⟩, I.2.2.of fun q => ⟨f78 32 q (by decide), f78 39 q (by decide)⟩⟩
        have m78 : (gI (vw t A s78) 47 0).toInt = 0 := by rw [gI_of (f78 47 0 (by decide))]; exact h0
        refine wp_call (q := (36, 85, 166, 0, [1])) (by decide +kernel) rfl ?_ (ms_ok W78 I78 (by have := P2_0 (V := vw t A s78) (by omega); omega)) ?_
        · have hp : pis s78 t (ow 166) = true := W78.isp
          show (true && (true && (decide (1 ≤ mL 166) && pis s78 t (ow 166)))) = true
          rw [hp]
          decide +kernel
        rintro r σ1 ⟨er, Z1, W1, zz1, S1, K1, I1, m1⟩
        subst er
        show wp 167 85 [(4, .long due), (2, .long to), (1, .int n), (0, .ref t)] [] σ1 _
        refine x_go (by decide +kernel : pins 167 85 = some (20, 88, 0, ((30 : Nat) : Int), [])) ?_
        refine wp_lv (lv := [(2, .long to), (1, .int n), (0, .ref t)]) ?_ (lvLe.cons (lvLe.cons (lvLe.cons lvLe.nil rfl) rfl) rfl) (by decide : ([2, 1, 0] : List Nat).Nodup) (by decide : ([4, 2, 1, 0] : List Nat).Nodup)
        have g1 : (gL (vw t A σ1) 0 0).toInt = to.toInt := by rw [gL_of (K1 0 0 (Or.inl rfl)), g0]
        refine ih σ1 Z1 W1 I1 m1 (by omega) (by omega) (fun σ' Z' ⟨a1, a2, a3, a4, a5⟩ b c => cont σ' Z' ⟨a1, fun a ha => a2 a (zz1 a ha), ((S78.tr S1).tr a3), fun j q hj j0 j3 => ?_, a5⟩ b c)
        rw [a4 j q hj j0 j3, K1 j q hj, f78 j q j0]
theorem P2_3 {V : Nat → Nat → Value} {v : Value} : P2 (up V 3 0 v) = P2 V := rfl
theorem pnar_int {ty : Option FieldType} (h : ty = some .int) (v : Int32) : pnarO ty v = true := by
  rw [h]
  show ((v : Int32) == v) = true
  exact beq_self_eq_true v
set_option maxHeartbeats 2000000 in
theorem go_ok {Z : Nat → Prop} {t : Nat} {A : Nat → Nat} {σ : ps} {n : Int32} (W : WT Z t A σ) (I : MsI (vw t A σ)) (hP : P2 (vw t A σ) ≤ 790) (hT : (gL (vw t A σ) 0 0).toInt ≤ 999000000) : wp 167 0 (lv_args 0 [.ref t, .int n]) [] σ (fun r σ' => ∃ (w : Int32) (Z' : Nat → Prop), r = some (.int w) ∧ GoR t A Z σ σ' Z' ∧ (((n.toInt < 0 ∨ 20000 < n.toInt) ∧ w.toInt = -1 ∧ vw t A σ' = up (vw t A σ) 3 0 (.int 0)) ∨ ((0 ≤ n.toInt ∧ n.toInt ≤ 20000) ∧ (gI (vw t A σ') 47 0).toInt = 0 ∧ (gL (vw t A σ') 0 0).toInt = (gL (vw t A σ) 0 0).toInt + n.toInt ∧ w.toInt = (gL (vw t A σ) 0 0).toInt + n.toInt))) := by
  show wp 167 0 [(0, .ref t), (1, .int n)] [] σ _
  refine x_al (by decide +kernel : pins 167 0 = some (5, 1, 0, 0, [])) (v := t) rfl ?_
  refine y_ic (by decide +kernel : pins 167 1 = some (0, 2, 0, 0, [])) (by decide) fun w1 e1 i1 => ?_
  refine y_put (k := 3) W (by decide +kernel : pins 167 2 = some (23, 5, 13, 3, [])) (by decide) rfl (okA.any _) fun s2 W2 S2 u2 => ?_
  refine x_il (by decide +kernel : pins 167 5 = some (3, 6, 1, 0, [])) (v := n) rfl ?_
  refine y_if2 (by decide +kernel : pins 167 6 = some (16, 9, 2, ((16 : Nat) : Int), [])) (fun c6 => ?_) (fun c6 => ?_)
  · refine y_ic (by decide +kernel : pins 167 16 = some (0, 17, (-1), 0, [])) (by decide) fun w16 e16 i16 => ?_
    refine x_reti (by decide +kernel : pins 167 17 = some (38, 18, 0, 0, [])) ?_ ?_
    · rw [e16]; decide +kernel
    · exact ⟨w16, Z, rfl, ⟨W2, fun _ h => h, S2, fun j q _ _ j3 => by rw [u2, up_ne j3], I.of fun j q hj => by rw [u2, up_ne (by omega)]⟩, Or.inl ⟨by omega, i16, by rw [u2, e1]; rfl⟩⟩
  · refine x_il (by decide +kernel : pins 167 9 = some (3, 10, 1, 0, [])) (v := n) rfl ?_
    refine y_ic (by decide +kernel : pins 167 10 = some (0, 13, 20000, 0, [])) (by decide) fun w10 e10 i10 => ?_
    refine y_ic5 (by decide +kernel : pins 167 13 = some (17, 16, 5, ((18 : Nat) : Int), [])) (fun c13 => ?_) (fun c13 => ?_)
    · refine x_al (by decide +kernel : pins 167 18 = some (5, 19, 0, 0, [])) (v := t) rfl ?_
      have f2 : ∀ j q, ¬ j = 3 → vw t A s2 j q = vw t A σ j q := fun j q hj => by rw [u2, up_ne hj]
      have x2 : P2 (vw t A s2) ≤ 790 := by rw [u2]; exact (P2_3 (V := vw t A σ) (v := .int w1)) ▸ hP
      have I2 : MsI (vw t A s2) := I.of fun j q hj => f2 j q (by omega)
      refine wp_call (q := (36, 22, 166, 0, [1])) (by decide +kernel) rfl ?_ (ms_ok W2 I2 x2) ?_
      · have hp : pis s2 t (ow 166) = true := W2.isp
        show (true && (true && (decide (1 ≤ mL 166) && pis s2 t (ow 166)))) = true
        rw [hp]
        decide +kernel
      rintro r σ1 ⟨er, Z1, W1, zz1, S1, K1, I1, m1⟩
      subst er
      show wp 167 22 [(0, .ref t), (1, .int n)] [] σ1 _
      refine x_al (by decide +kernel : pins 167 22 = some (5, 23, 0, 0, [])) (v := t) rfl ?_
      refine y_fl W1 (by decide +kernel : pins 167 23 = some (22, 26, 13, 0, [])) fun w23 e23 => ?_
      refine x_il (by decide +kernel : pins 167 26 = some (3, 27, 1, 0, [])) (v := n) rfl ?_
      refine y_i2l (by decide +kernel : pins 167 27 = some (13, 28, 0, 0, [])) fun w27 e27 => ?_
      refine y_ladd (by decide +kernel : pins 167 28 = some (11, 29, 0, 0, [])) fun w28 e28 => ?_
      refine y_ls (by decide +kernel : pins 167 29 = some (7, 30, 2, 0, [])) ?_
      show wp 167 30 [(2, .long w28), (0, .ref t), (1, .int n)] [] σ1 _
      refine wp_lv (lv := [(2, .long w28), (1, .int n), (0, .ref t)]) ?_ (lvLe.cons (lvLe.cons (lvLe.cons lvLe.nil rfl) rfl) rfl) (by decide : ([2, 1, 0] : List Nat).Nodup) (by decide : ([2, 0, 1] : List Nat).Nodup)
      have g0 : (gL (vw t A σ1) 0 0).toInt = (gL (vw t A σ) 0 0).toInt := by rw [gL_of (K1 0 0 (Or.inl rfl)), gL_of (f2 0 0 (by decide))]
      have i0 := I.1
      have q28 : w28.toInt = (gL (vw t A σ) 0 0).toInt + n.toInt := by rw [e28, e27, e23, lw_add (by rw [lw_i2l]; omega) (by rw [lw_i2l]; omega), lw_i2l, g0]
      refine go_loop (n := n) (to := w28) (by omega) n.toInt.toNat σ1 Z1 W1 I1 m1 (by omega) (by omega) ?_
      rintro σ3 Z3 ⟨a1, a2, a3, a4, a5⟩ b c
      refine x_al (by decide +kernel : pins 167 88 = some (5, 89, 0, 0, [])) (v := t) rfl ?_
      refine y_fl a1 (by decide +kernel : pins 167 89 = some (22, 92, 13, 0, [])) fun w89 e89 => ?_
      refine y_l2i (by decide +kernel : pins 167 92 = some (14, 93, 0, 0, [])) fun w92 e92 => ?_
      refine x_reti (by decide +kernel : pins 167 93 = some (38, 94, 0, 0, [])) ?_ ?_
      · show pnarO (rt 167) w92 = true
        exact pnar_int (by decide +kernel) _
      · refine ⟨w92, Z3, rfl, ⟨a1, fun a ha => a2 a (zz1 a ha), (S2.tr S1).tr a3, fun j q hj j0 j3 => by rw [a4 j q hj j0 j3, K1 j q hj, f2 j q j3], a5⟩, Or.inr ⟨by omega, b, by omega, ?_⟩⟩
        rw [e92, e89, lw_l2i (by omega) (by omega)]; omega
    · refine y_ic (by decide +kernel : pins 167 16 = some (0, 17, (-1), 0, [])) (by decide) fun w16 e16 i16 => ?_
      refine x_reti (by decide +kernel : pins 167 17 = some (38, 18, 0, 0, [])) ?_ ?_
      · rw [e16]; decide +kernel
      · exact ⟨w16, Z, rfl, ⟨W2, fun _ h => h, S2, fun j q _ _ j3 => by rw [u2, up_ne j3], I.of fun j q hj => by rw [u2, up_ne (by omega)]⟩, Or.inl ⟨by omega, i16, by rw [u2, e1]; rfl⟩⟩
