/-- locals that tell less -/
def lvLe (lv' lv : LV) : Prop := ∀ (i : Nat) (v : Value), plk lv' i = some v → plk lv i = some v
def Nd (lv : LV) : Prop := (lv.map (·.1)).Nodup
theorem plk_filter {lv : LV} (hn : Nd lv) (p : Nat × Value → Bool) (j : Nat) : plk (lv.filter p) j = match plk lv j with
    | some w => if p (j, w) then some w else none
    | none => none := by
  induction lv with
  | nil => rfl
  | cons q r ih =>
    obtain ⟨i, v⟩ := q
    unfold Nd at hn
    rw [List.map_cons, List.nodup_cons] at hn
    obtain ⟨h1, h2⟩ := hn
    by_cases hj : i = j
    · subst hj
      have e : plk ((i, v) :: r) i = some v := by unfold plk; rw [if_pos rfl]
      rw [e]
      simp only
      by_cases hp : p (i, v) = true
      · rw [List.filter_cons_of_pos hp, if_pos hp]
        unfold plk
        rw [if_pos rfl]
      · rw [List.filter_cons_of_neg hp, if_neg hp]
        cases hq : plk (r.filter p) i with
        | none => rfl
        | some w =>
          have := plk_mem hq
          have := (List.mem_filter.mp this).1
          exact absurd (List.mem_map.mpr ⟨_, this, rfl⟩) h1
    · have e : plk ((i, v) :: r) j = plk r j := by
        show (if i = j then some v else plk r j) = _
        rw [if_neg hj]
      rw [e, ← ih h2]
      by_cases hp : p (i, v) = true
      · rw [List.filter_cons_of_pos hp]
        show (if i = j then some v else plk (r.filter p) j) = _
        rw [if_neg hj]
      · rw [List.filter_cons_of_neg hp]
theorem Nd.filter {lv : LV} (h : Nd lv) (p : Nat × Value → Bool) : Nd (lv.filter p) := by
  unfold Nd at h ⊢
  exact h.sublist (List.Sublist.map _ List.filter_sublist)
theorem Nd.cons {lv : LV} {i : Nat} {v : Value} (h : Nd lv) (hi : ∀ q ∈ lv, ¬ q.1 = i) : Nd ((i, v) :: lv) := by
  unfold Nd at h ⊢
  rw [List.map_cons, List.nodup_cons]
  refine ⟨fun hm => ?_, h⟩
  obtain ⟨q, hq, e⟩ := List.mem_map.mp hm
  exact hi q hq e
theorem Nd.st1 {lv : LV} (h : Nd lv) (i : Nat) (v : Value) : Nd (pst1 lv i v) := by
  refine (h.filter _).cons (fun q hq e => ?_)
  have := (List.mem_filter.mp hq).2
  rw [Bool.and_eq_true, Bool.not_eq_true', beq_eq_false_iff_ne] at this
  exact this.1 e
theorem Nd.st2 {lv : LV} (h : Nd lv) (i : Nat) (v : Value) : Nd (pst2 lv i v) := by
  refine (h.filter _).cons (fun q hq e => ?_)
  have := (List.mem_filter.mp hq).2
  rw [Bool.and_eq_true, Bool.not_eq_true', beq_eq_false_iff_ne] at this
  exact this.1 e
theorem lvLe.st1 {lv' lv : LV} (h : lvLe lv' lv) (n' : Nd lv') (n : Nd lv) (i : Nat) (v : Value) : lvLe (pst1 lv' i v) (pst1 lv i v) := by
  intro j w hj
  unfold pst1 at hj ⊢
  by_cases hij : i = j
  · subst hij
    unfold plk at hj ⊢
    rw [if_pos rfl] at hj ⊢
    exact hj
  · have e : ∀ (l : LV) (x : Value), plk ((i, x) :: l) j = plk l j := fun l x => by
      show (if i = j then some x else plk l j) = _
      rw [if_neg hij]
    rw [e, plk_filter n'] at hj
    rw [e, plk_filter n]
    cases hq : plk lv' j with
    | none => rw [hq] at hj; cases hj
    | some u =>
      rw [hq] at hj
      rw [h j u hq]
      exact hj
theorem lvLe.st2 {lv' lv : LV} (h : lvLe lv' lv) (n' : Nd lv') (n : Nd lv) (i : Nat) (v : Value) : lvLe (pst2 lv' i v) (pst2 lv i v) := by
  intro j w hj
  unfold pst2 at hj ⊢
  by_cases hij : i = j
  · subst hij
    unfold plk at hj ⊢
    rw [if_pos rfl] at hj ⊢
    exact hj
  · have e : ∀ (l : LV) (x : Value), plk ((i, x) :: l) j = plk l j := fun l x => by
      show (if i = j then some x else plk l j) = _
      rw [if_neg hij]
    rw [e, plk_filter n'] at hj
    rw [e, plk_filter n]
    cases hq : plk lv' j with
    | none => rw [hq] at hj; cases hj
    | some u =>
      rw [hq] at hj
      rw [h j u hq]
      exact hj
def PL (lv : LV) (r : PR) (r' : PR) : Prop := ∀ pc' lv1 st' σ', r' = some (pc', lv1, st', σ') → ∃ lv2, r = some (pc', lv2, st', σ') ∧ lvLe lv1 lv2 ∧ Nd lv1 ∧ Nd lv2
theorem PL.same {lv lv' : LV} {f : LV → PR} (hL : lvLe lv' lv) (n' : Nd lv') (n : Nd lv) (h : ∀ l l' : LV, f l = (f l').map (fun r => (r.1, l, r.2.2))) (h2 : ∀ (l : LV) pc' lv1 st' σ', f l = some (pc', lv1, st', σ') → lv1 = l) : PL lv (f lv) (f lv') := by
  intro pc' lv1 st' σ' hr
  have e1 := h2 _ _ _ _ _ hr
  subst e1
  refine ⟨lv, ?_, hL, n', n⟩
  rw [h lv lv1, hr]
  rfl
theorem l_iop {q : PI} {lv lv' : LV} {st : List Value} {σ : ps} (hL : lvLe lv' lv) (n' : Nd lv') (n : Nd lv) : PL lv (f_iop q lv st σ) (f_iop q lv' st σ) := by
  refine PL.same (f := fun l => f_iop q l st σ) hL n' n (fun l l' => ?_) (fun l pc' lv1 st' σ' h => ?_)
  · unfold f_iop
    first | rfl | (repeat' split) <;> rfl
  · unfold f_iop at h
    repeat' split at h
    all_goals first | (cases h; done) | (cases h; rfl)
theorem l_lop {q : PI} {lv lv' : LV} {st : List Value} {σ : ps} (hL : lvLe lv' lv) (n' : Nd lv') (n : Nd lv) : PL lv (f_lop q lv st σ) (f_lop q lv' st σ) := by
  refine PL.same (f := fun l => f_lop q l st σ) hL n' n (fun l l' => ?_) (fun l pc' lv1 st' σ' h => ?_)
  · unfold f_lop
    first | rfl | (repeat' split) <;> rfl
  · unfold f_lop at h
    repeat' split at h
    all_goals first | (cases h; done) | (cases h; rfl)
theorem l_lcmp {q : PI} {lv lv' : LV} {st : List Value} {σ : ps} (hL : lvLe lv' lv) (n' : Nd lv') (n : Nd lv) : PL lv (f_lcmp q lv st σ) (f_lcmp q lv' st σ) := by
  refine PL.same (f := fun l => f_lcmp q l st σ) hL n' n (fun l l' => ?_) (fun l pc' lv1 st' σ' h => ?_)
  · unfold f_lcmp
    first | rfl | (repeat' split) <;> rfl
  · unfold f_lcmp at h
    repeat' split at h
    all_goals first | (cases h; done) | (cases h; rfl)
theorem l_i2l {q : PI} {lv lv' : LV} {st : List Value} {σ : ps} (hL : lvLe lv' lv) (n' : Nd lv') (n : Nd lv) : PL lv (f_i2l q lv st σ) (f_i2l q lv' st σ) := by
  refine PL.same (f := fun l => f_i2l q l st σ) hL n' n (fun l l' => ?_) (fun l pc' lv1 st' σ' h => ?_)
  · unfold f_i2l
    first | rfl | (repeat' split) <;> rfl
  · unfold f_i2l at h
    repeat' split at h
    all_goals first | (cases h; done) | (cases h; rfl)
theorem l_l2i {q : PI} {lv lv' : LV} {st : List Value} {σ : ps} (hL : lvLe lv' lv) (n' : Nd lv') (n : Nd lv) : PL lv (f_l2i q lv st σ) (f_l2i q lv' st σ) := by
  refine PL.same (f := fun l => f_l2i q l st σ) hL n' n (fun l l' => ?_) (fun l pc' lv1 st' σ' h => ?_)
  · unfold f_l2i
    first | rfl | (repeat' split) <;> rfl
  · unfold f_l2i at h
    repeat' split at h
    all_goals first | (cases h; done) | (cases h; rfl)
theorem l_i2b {q : PI} {lv lv' : LV} {st : List Value} {σ : ps} (hL : lvLe lv' lv) (n' : Nd lv') (n : Nd lv) : PL lv (f_i2b q lv st σ) (f_i2b q lv' st σ) := by
  refine PL.same (f := fun l => f_i2b q l st σ) hL n' n (fun l l' => ?_) (fun l pc' lv1 st' σ' h => ?_)
  · unfold f_i2b
    first | rfl | (repeat' split) <;> rfl
  · unfold f_i2b at h
    repeat' split at h
    all_goals first | (cases h; done) | (cases h; rfl)
theorem l_if {q : PI} {lv lv' : LV} {st : List Value} {σ : ps} (hL : lvLe lv' lv) (n' : Nd lv') (n : Nd lv) : PL lv (f_if q lv st σ) (f_if q lv' st σ) := by
  refine PL.same (f := fun l => f_if q l st σ) hL n' n (fun l l' => ?_) (fun l pc' lv1 st' σ' h => ?_)
  · unfold f_if
    first | rfl | (repeat' split) <;> rfl
  · unfold f_if at h
    repeat' split at h
    all_goals first | (cases h; done) | (cases h; rfl)
theorem l_icmp {q : PI} {lv lv' : LV} {st : List Value} {σ : ps} (hL : lvLe lv' lv) (n' : Nd lv') (n : Nd lv) : PL lv (f_icmp q lv st σ) (f_icmp q lv' st σ) := by
  refine PL.same (f := fun l => f_icmp q l st σ) hL n' n (fun l l' => ?_) (fun l pc' lv1 st' σ' h => ?_)
  · unfold f_icmp
    first | rfl | (repeat' split) <;> rfl
  · unfold f_icmp at h
    repeat' split at h
    all_goals first | (cases h; done) | (cases h; rfl)
theorem l_ifnull {q : PI} {lv lv' : LV} {st : List Value} {σ : ps} (hL : lvLe lv' lv) (n' : Nd lv') (n : Nd lv) : PL lv (f_ifnull q lv st σ) (f_ifnull q lv' st σ) := by
  refine PL.same (f := fun l => f_ifnull q l st σ) hL n' n (fun l l' => ?_) (fun l pc' lv1 st' σ' h => ?_)
  · unfold f_ifnull
    first | rfl | (repeat' split) <;> rfl
  · unfold f_ifnull at h
    repeat' split at h
    all_goals first | (cases h; done) | (cases h; rfl)
theorem l_ifnonnull {q : PI} {lv lv' : LV} {st : List Value} {σ : ps} (hL : lvLe lv' lv) (n' : Nd lv') (n : Nd lv) : PL lv (f_ifnonnull q lv st σ) (f_ifnonnull q lv' st σ) := by
  refine PL.same (f := fun l => f_ifnonnull q l st σ) hL n' n (fun l l' => ?_) (fun l pc' lv1 st' σ' h => ?_)
  · unfold f_ifnonnull
    first | rfl | (repeat' split) <;> rfl
  · unfold f_ifnonnull at h
    repeat' split at h
    all_goals first | (cases h; done) | (cases h; rfl)
theorem l_switch {q : PI} {lv lv' : LV} {st : List Value} {σ : ps} (hL : lvLe lv' lv) (n' : Nd lv') (n : Nd lv) : PL lv (f_switch q lv st σ) (f_switch q lv' st σ) := by
  refine PL.same (f := fun l => f_switch q l st σ) hL n' n (fun l l' => ?_) (fun l pc' lv1 st' σ' h => ?_)
  · unfold f_switch
    first | rfl | (repeat' split) <;> rfl
  · unfold f_switch at h
    repeat' split at h
    all_goals first | (cases h; done) | (cases h; rfl)
theorem l_get {q : PI} {lv lv' : LV} {st : List Value} {σ : ps} (hL : lvLe lv' lv) (n' : Nd lv') (n : Nd lv) : PL lv (f_get q lv st σ) (f_get q lv' st σ) := by
  refine PL.same (f := fun l => f_get q l st σ) hL n' n (fun l l' => ?_) (fun l pc' lv1 st' σ' h => ?_)
  · unfold f_get
    first | rfl | (repeat' split) <;> rfl
  · unfold f_get at h
    repeat' split at h
    all_goals first | (cases h; done) | (cases h; rfl)
theorem l_put {q : PI} {lv lv' : LV} {st : List Value} {σ : ps} (hL : lvLe lv' lv) (n' : Nd lv') (n : Nd lv) : PL lv (f_put q lv st σ) (f_put q lv' st σ) := by
  refine PL.same (f := fun l => f_put q l st σ) hL n' n (fun l l' => ?_) (fun l pc' lv1 st' σ' h => ?_)
  · unfold f_put
    first | rfl | (repeat' split) <;> rfl
  · unfold f_put at h
    repeat' split at h
    all_goals first | (cases h; done) | (cases h; rfl)
theorem l_iald {q : PI} {lv lv' : LV} {st : List Value} {σ : ps} (hL : lvLe lv' lv) (n' : Nd lv') (n : Nd lv) : PL lv (f_iald q lv st σ) (f_iald q lv' st σ) := by
  refine PL.same (f := fun l => f_iald q l st σ) hL n' n (fun l l' => ?_) (fun l pc' lv1 st' σ' h => ?_)
  · unfold f_iald
    first | rfl | (repeat' split) <;> rfl
  · unfold f_iald at h
    repeat' split at h
    all_goals first | (cases h; done) | (cases h; rfl)
theorem l_bald {q : PI} {lv lv' : LV} {st : List Value} {σ : ps} (hL : lvLe lv' lv) (n' : Nd lv') (n : Nd lv) : PL lv (f_bald q lv st σ) (f_bald q lv' st σ) := by
  refine PL.same (f := fun l => f_bald q l st σ) hL n' n (fun l l' => ?_) (fun l pc' lv1 st' σ' h => ?_)
  · unfold f_bald
    first | rfl | (repeat' split) <;> rfl
  · unfold f_bald at h
    repeat' split at h
    all_goals first | (cases h; done) | (cases h; rfl)
theorem l_lald {q : PI} {lv lv' : LV} {st : List Value} {σ : ps} (hL : lvLe lv' lv) (n' : Nd lv') (n : Nd lv) : PL lv (f_lald q lv st σ) (f_lald q lv' st σ) := by
  refine PL.same (f := fun l => f_lald q l st σ) hL n' n (fun l l' => ?_) (fun l pc' lv1 st' σ' h => ?_)
  · unfold f_lald
    first | rfl | (repeat' split) <;> rfl
  · unfold f_lald at h
    repeat' split at h
    all_goals first | (cases h; done) | (cases h; rfl)
theorem l_aald {q : PI} {lv lv' : LV} {st : List Value} {σ : ps} (hL : lvLe lv' lv) (n' : Nd lv') (n : Nd lv) : PL lv (f_aald q lv st σ) (f_aald q lv' st σ) := by
  refine PL.same (f := fun l => f_aald q l st σ) hL n' n (fun l l' => ?_) (fun l pc' lv1 st' σ' h => ?_)
  · unfold f_aald
    first | rfl | (repeat' split) <;> rfl
  · unfold f_aald at h
    repeat' split at h
    all_goals first | (cases h; done) | (cases h; rfl)
theorem l_iast {q : PI} {lv lv' : LV} {st : List Value} {σ : ps} (hL : lvLe lv' lv) (n' : Nd lv') (n : Nd lv) : PL lv (f_iast q lv st σ) (f_iast q lv' st σ) := by
  refine PL.same (f := fun l => f_iast q l st σ) hL n' n (fun l l' => ?_) (fun l pc' lv1 st' σ' h => ?_)
  · unfold f_iast
    first | rfl | (repeat' split) <;> rfl
  · unfold f_iast at h
    repeat' split at h
    all_goals first | (cases h; done) | (cases h; rfl)
theorem l_bast {q : PI} {lv lv' : LV} {st : List Value} {σ : ps} (hL : lvLe lv' lv) (n' : Nd lv') (n : Nd lv) : PL lv (f_bast q lv st σ) (f_bast q lv' st σ) := by
  refine PL.same (f := fun l => f_bast q l st σ) hL n' n (fun l l' => ?_) (fun l pc' lv1 st' σ' h => ?_)
  · unfold f_bast
    first | rfl | (repeat' split) <;> rfl
  · unfold f_bast at h
    repeat' split at h
    all_goals first | (cases h; done) | (cases h; rfl)
theorem l_last {q : PI} {lv lv' : LV} {st : List Value} {σ : ps} (hL : lvLe lv' lv) (n' : Nd lv') (n : Nd lv) : PL lv (f_last q lv st σ) (f_last q lv' st σ) := by
  refine PL.same (f := fun l => f_last q l st σ) hL n' n (fun l l' => ?_) (fun l pc' lv1 st' σ' h => ?_)
  · unfold f_last
    first | rfl | (repeat' split) <;> rfl
  · unfold f_last at h
    repeat' split at h
    all_goals first | (cases h; done) | (cases h; rfl)
theorem l_aast {q : PI} {lv lv' : LV} {st : List Value} {σ : ps} (hL : lvLe lv' lv) (n' : Nd lv') (n : Nd lv) : PL lv (f_aast q lv st σ) (f_aast q lv' st σ) := by
  refine PL.same (f := fun l => f_aast q l st σ) hL n' n (fun l l' => ?_) (fun l pc' lv1 st' σ' h => ?_)
  · unfold f_aast
    first | rfl | (repeat' split) <;> rfl
  · unfold f_aast at h
    repeat' split at h
    all_goals first | (cases h; done) | (cases h; rfl)
theorem l_pop {q : PI} {lv lv' : LV} {st : List Value} {σ : ps} (hL : lvLe lv' lv) (n' : Nd lv') (n : Nd lv) : PL lv (f_pop q lv st σ) (f_pop q lv' st σ) := by
  refine PL.same (f := fun l => f_pop q l st σ) hL n' n (fun l l' => ?_) (fun l pc' lv1 st' σ' h => ?_)
  · unfold f_pop
    first | rfl | (repeat' split) <;> rfl
  · unfold f_pop at h
    repeat' split at h
    all_goals first | (cases h; done) | (cases h; rfl)
theorem l_dup {q : PI} {lv lv' : LV} {st : List Value} {σ : ps} (hL : lvLe lv' lv) (n' : Nd lv') (n : Nd lv) : PL lv (f_dup q lv st σ) (f_dup q lv' st σ) := by
  refine PL.same (f := fun l => f_dup q l st σ) hL n' n (fun l l' => ?_) (fun l pc' lv1 st' σ' h => ?_)
  · unfold f_dup
    first | rfl | (repeat' split) <;> rfl
  · unfold f_dup at h
    repeat' split at h
    all_goals first | (cases h; done) | (cases h; rfl)
theorem l_dup2 {q : PI} {lv lv' : LV} {st : List Value} {σ : ps} (hL : lvLe lv' lv) (n' : Nd lv') (n : Nd lv) : PL lv (f_dup2 q lv st σ) (f_dup2 q lv' st σ) := by
  refine PL.same (f := fun l => f_dup2 q l st σ) hL n' n (fun l l' => ?_) (fun l pc' lv1 st' σ' h => ?_)
  · unfold f_dup2
    first | rfl | (repeat' split) <;> rfl
  · unfold f_dup2 at h
    repeat' split at h
    all_goals first | (cases h; done) | (cases h; rfl)
theorem l_new {q : PI} {lv lv' : LV} {st : List Value} {σ : ps} (hL : lvLe lv' lv) (n' : Nd lv') (n : Nd lv) : PL lv (f_new q lv st σ) (f_new q lv' st σ) := by
  refine PL.same (f := fun l => f_new q l st σ) hL n' n (fun l l' => ?_) (fun l pc' lv1 st' σ' h => ?_)
  · unfold f_new
    first | rfl | (repeat' split) <;> rfl
  · cases h; rfl
theorem l_newa {q : PI} {lv lv' : LV} {st : List Value} {σ : ps} (hL : lvLe lv' lv) (n' : Nd lv') (n : Nd lv) : PL lv (f_newa q lv st σ) (f_newa q lv' st σ) := by
  refine PL.same (f := fun l => f_newa q l st σ) hL n' n (fun l l' => ?_) (fun l pc' lv1 st' σ' h => ?_)
  · unfold f_newa
    first | rfl | (repeat' split) <;> rfl
  · unfold f_newa at h
    repeat' split at h
    all_goals first | (cases h; done) | (cases h; rfl)
theorem l_imin {q : PI} {lv lv' : LV} {st : List Value} {σ : ps} (hL : lvLe lv' lv) (n' : Nd lv') (n : Nd lv) : PL lv (f_imin q lv st σ) (f_imin q lv' st σ) := by
  refine PL.same (f := fun l => f_imin q l st σ) hL n' n (fun l l' => ?_) (fun l pc' lv1 st' σ' h => ?_)
  · unfold f_imin
    first | rfl | (repeat' split) <;> rfl
  · unfold f_imin at h
    repeat' split at h
    all_goals first | (cases h; done) | (cases h; rfl)
theorem l_lmin {q : PI} {lv lv' : LV} {st : List Value} {σ : ps} (hL : lvLe lv' lv) (n' : Nd lv') (n : Nd lv) : PL lv (f_lmin q lv st σ) (f_lmin q lv' st σ) := by
  refine PL.same (f := fun l => f_lmin q l st σ) hL n' n (fun l l' => ?_) (fun l pc' lv1 st' σ' h => ?_)
  · unfold f_lmin
    first | rfl | (repeat' split) <;> rfl
  · unfold f_lmin at h
    repeat' split at h
    all_goals first | (cases h; done) | (cases h; rfl)
theorem l_oinit {q : PI} {lv lv' : LV} {st : List Value} {σ : ps} (hL : lvLe lv' lv) (n' : Nd lv') (n : Nd lv) : PL lv (f_oinit q lv st σ) (f_oinit q lv' st σ) := by
  refine PL.same (f := fun l => f_oinit q l st σ) hL n' n (fun l l' => ?_) (fun l pc' lv1 st' σ' h => ?_)
  · unfold f_oinit
    first | rfl | (repeat' split) <;> rfl
  · unfold f_oinit at h
    repeat' split at h
    all_goals first | (cases h; done) | (cases h; rfl)
theorem l_iload {q : PI} {lv lv' : LV} {st : List Value} {σ : ps} (hL : lvLe lv' lv) (n' : Nd lv') (n : Nd lv) : PL lv (f_iload q lv st σ) (f_iload q lv' st σ) := by
  intro pc' lv1 st' σ' h
  unfold f_iload at h ⊢
  split at h
  · rename_i hx
    rw [hL _ _ hx]
    cases h
    exact ⟨lv, rfl, hL, n', n⟩
  · cases h
theorem l_lload {q : PI} {lv lv' : LV} {st : List Value} {σ : ps} (hL : lvLe lv' lv) (n' : Nd lv') (n : Nd lv) : PL lv (f_lload q lv st σ) (f_lload q lv' st σ) := by
  intro pc' lv1 st' σ' h
  unfold f_lload at h ⊢
  split at h
  · rename_i hx
    rw [hL _ _ hx]
    cases h
    exact ⟨lv, rfl, hL, n', n⟩
  · cases h
theorem l_aload {q : PI} {lv lv' : LV} {st : List Value} {σ : ps} (hL : lvLe lv' lv) (n' : Nd lv') (n : Nd lv) : PL lv (f_aload q lv st σ) (f_aload q lv' st σ) := by
  intro pc' lv1 st' σ' h
  unfold f_aload at h ⊢
  split at h
  · rename_i hx
    rw [hL _ _ hx]
    cases h
    exact ⟨lv, rfl, hL, n', n⟩
  · rename_i hx
    rw [hL _ _ hx]
    cases h
    exact ⟨lv, rfl, hL, n', n⟩
  · cases h
theorem l_istore {q : PI} {lv lv' : LV} {st : List Value} {σ : ps} (hL : lvLe lv' lv) (n' : Nd lv') (n : Nd lv) : PL lv (f_istore q lv st σ) (f_istore q lv' st σ) := by
  intro pc' lv1 st' σ' h
  unfold f_istore at h ⊢
  split at h
  · cases h
    exact ⟨_, rfl, hL.st1 n' n _ _, n'.st1 _ _, n.st1 _ _⟩
  · cases h
theorem l_lstore {q : PI} {lv lv' : LV} {st : List Value} {σ : ps} (hL : lvLe lv' lv) (n' : Nd lv') (n : Nd lv) : PL lv (f_lstore q lv st σ) (f_lstore q lv' st σ) := by
  intro pc' lv1 st' σ' h
  unfold f_lstore at h ⊢
  split at h
  · cases h
    exact ⟨_, rfl, hL.st2 n' n _ _, n'.st2 _ _, n.st2 _ _⟩
  · cases h
theorem l_astore {q : PI} {lv lv' : LV} {st : List Value} {σ : ps} (hL : lvLe lv' lv) (n' : Nd lv') (n : Nd lv) : PL lv (f_astore q lv st σ) (f_astore q lv' st σ) := by
  intro pc' lv1 st' σ' h
  unfold f_astore at h ⊢
  split at h
  · cases h
    exact ⟨_, rfl, hL.st1 n' n _ _, n'.st1 _ _, n.st1 _ _⟩
  · cases h
    exact ⟨_, rfl, hL.st1 n' n _ _, n'.st1 _ _, n.st1 _ _⟩
  · cases h
theorem l_iinc {q : PI} {lv lv' : LV} {st : List Value} {σ : ps} (hL : lvLe lv' lv) (n' : Nd lv') (n : Nd lv) : PL lv (f_iinc q lv st σ) (f_iinc q lv' st σ) := by
  intro pc' lv1 st' σ' h
  unfold f_iinc at h ⊢
  split at h
  · rename_i x hx
    rw [hL _ _ hx]
    cases h
    exact ⟨_, rfl, hL.st1 n' n _ _, n'.st1 _ _, n.st1 _ _⟩
  · cases h
theorem l_pst {q : PI} {lv lv' : LV} {st : List Value} {σ : ps} (hL : lvLe lv' lv) (n' : Nd lv') (n : Nd lv) : PL lv (pst q lv st σ) (pst q lv' st σ) := by
  obtain ⟨op, nx, x, y, ts⟩ := q
  match op with
  | 0 => exact fun pc' lv1 st' σ' h => by cases h; exact ⟨lv, rfl, hL, n', n⟩
  | 1 => exact fun pc' lv1 st' σ' h => by cases h; exact ⟨lv, rfl, hL, n', n⟩
  | 2 => exact fun pc' lv1 st' σ' h => by cases h; exact ⟨lv, rfl, hL, n', n⟩
  | 3 => exact l_iload hL n' n
  | 4 => exact l_lload hL n' n
  | 5 => exact l_aload hL n' n
  | 6 => exact l_istore hL n' n
  | 7 => exact l_lstore hL n' n
  | 8 => exact l_astore hL n' n
  | 9 => exact l_iinc hL n' n
  | 10 => exact l_iop hL n' n
  | 11 => exact l_lop hL n' n
  | 12 => exact l_lcmp hL n' n
  | 13 => exact l_i2l hL n' n
  | 14 => exact l_l2i hL n' n
  | 15 => exact l_i2b hL n' n
  | 16 => exact l_if hL n' n
  | 17 => exact l_icmp hL n' n
  | 18 => exact l_ifnull hL n' n
  | 19 => exact l_ifnonnull hL n' n
  | 20 => exact fun pc' lv1 st' σ' h => by cases h; exact ⟨lv, rfl, hL, n', n⟩
  | 21 => exact l_switch hL n' n
  | 22 => exact l_get hL n' n
  | 23 => exact l_put hL n' n
  | 24 => exact l_iald hL n' n
  | 25 => exact l_bald hL n' n
  | 26 => exact l_lald hL n' n
  | 27 => exact l_aald hL n' n
  | 28 => exact l_iast hL n' n
  | 29 => exact l_bast hL n' n
  | 30 => exact l_last hL n' n
  | 31 => exact l_aast hL n' n
  | 32 => exact fun pc' lv1 st' σ' h => by cases h
  | 33 => exact l_pop hL n' n
  | 34 => exact l_dup hL n' n
  | 35 => exact l_dup2 hL n' n
  | 36 => exact fun pc' lv1 st' σ' h => by cases h
  | 37 => exact fun pc' lv1 st' σ' h => by cases h
  | 38 => exact fun pc' lv1 st' σ' h => by cases h
  | 39 => exact fun pc' lv1 st' σ' h => by cases h
  | 40 => exact fun pc' lv1 st' σ' h => by cases h
  | 41 => exact l_new hL n' n
  | 42 => exact l_newa hL n' n
  | 43 => exact l_imin hL n' n
  | 44 => exact l_lmin hL n' n
  | 45 => exact l_oinit hL n' n
  | n + 46 => exact fun pc' lv1 st' σ' h => by cases h
theorem prun_sub : ∀ (n mi pc : Nat) (lv lv' : LV) (st : List Value) (σ : ps) (x : Option Value × ps), lvLe lv' lv → Nd lv' → Nd lv → prun n mi pc lv' st σ = some x → prun n mi pc lv st σ = some x := by
  intro n
  induction n with
  | zero => intro mi pc lv lv' st σ x _ _ _ h; cases h
  | succ n ih =>
    intro mi pc lv lv' st σ x hL n' nn h
    unfold prun at h ⊢
    split at h
    · cases h
    · rename_i q hq
      split at h
      · rename_i h36
        rw [if_pos h36]
        split at h
        · rename_i hc
          rw [if_pos hc]
          split at h
          · cases h
          · rename_i r σ1 h1
            exact ih _ _ _ _ _ _ _ hL n' nn h
        · cases h
      · rename_i h36
        rw [if_neg h36]
        split at h
        · exact h
        · split at h
          · cases h
          · rename_i h1
            obtain ⟨lv2, e, hL2, a1, a2⟩ := l_pst hL n' nn _ _ _ _ h1
            rw [e]
            exact ih _ _ _ _ _ _ _ hL2 a1 a2 h
theorem wp_sub {mi pc : Nat} {lv lv' : LV} {st : List Value} {σ : ps} {P : Option Value → ps → Prop} (hL : lvLe lv' lv) (n' : Nd lv') (n : Nd lv) (h : wp mi pc lv' st σ P) : wp mi pc lv st σ P := by
  obtain ⟨m, r, σ1, h1, h2⟩ := h
  exact ⟨m, r, σ1, prun_sub _ _ _ _ _ _ _ _ hL n' n h1, h2⟩
