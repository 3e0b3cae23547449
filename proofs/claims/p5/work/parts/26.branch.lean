section BR
variable {X : CT} {rw : Nat → Prop} {Z0 : Nat → Prop} {σ0 : ps} {vs : List Value} {Z : Nat → Prop} {ρ : Nat → Value} {α : AS} {lv : LV} {st : List Value} {σ : ps} {k : Nat → AS → Bool} {nx : Nat} {q1 q2 : Int} {ts : List Nat}
theorem wf_tl1 (hw : wfB α = true) {x : Nat} {r : List Nat} (hs : α.2.2.1 = x :: r) : ∀ q ∈ r, q < α.1.length := fun q hq => wf_st hw q (by rw [hs]; exact List.mem_cons_of_mem _ hq)
theorem wf_tl2 (hw : wfB α = true) {x y : Nat} {r : List Nat} (hs : α.2.2.1 = x :: y :: r) : ∀ q ∈ r, q < α.1.length := fun q hq => wf_st hw q (by rw [hs]; exact List.mem_cons_of_mem _ (List.mem_cons_of_mem _ hq))
theorem o11 (hw : wfB α = true) (I : Inv X rw Z0 σ0 vs Z ρ α lv st σ) (h : ast X (11, nx, q1, q2, ts) α k = true) : Nx X rw Z0 σ0 vs (11, nx, q1, q2, ts) lv st σ k := by
  have h : (match α.2.2.1 with
    | y :: x :: r => ((eg α x).1.1 == 1 && ((eg α y).1.1 == 1 && (!(decide (q1 = 3) || decide (q1 = 4)) || decide (1 ≤ (eg α y).1.2.1)))) && (decide (0 ≤ q1) && decide (q1 ≤ 4)) && k nx (anew α (aLong, 0, 0) r)
    | _ => false) = true := h
  split at h
  · rename_i y x r hs
    simp only [Bool.and_eq_true, beq_iff_eq, decide_eq_true_eq] at h
    obtain ⟨⟨⟨hx, hy, hd⟩, ho⟩, h2⟩ := h
    obtain ⟨a, ea, x1, x2⟩ := I.1.long hx
    obtain ⟨b, eb, y1, y2⟩ := I.1.long hy
    have hb : q1 = 3 ∨ q1 = 4 → ¬ b = 0 := by
      intro hq e
      simp only [Bool.or_eq_true, Bool.not_eq_true', Bool.or_eq_false_iff, decide_eq_false_iff_not, decide_eq_true_eq] at hd
      rw [e, Int64.toInt_zero] at y1
      rcases hd with hd | hd
      · omega
      · omega
    have hz : ∃ z, lop q1 a b = some z := by
      unfold lop
      by_cases c0 : q1 = 0
      · rw [if_pos c0]; exact ⟨_, rfl⟩
      rw [if_neg c0]
      by_cases c1 : q1 = 1
      · rw [if_pos c1]; exact ⟨_, rfl⟩
      rw [if_neg c1]
      by_cases c2 : q1 = 2
      · rw [if_pos c2]; exact ⟨_, rfl⟩
      rw [if_neg c2]
      by_cases c3 : q1 = 3
      · rw [if_pos c3, if_neg (hb (Or.inl c3))]; exact ⟨_, rfl⟩
      rw [if_neg c3]
      have c4 : q1 = 4 := by omega
      rw [if_pos c4, if_neg (hb (Or.inr c4))]; exact ⟨_, rfl⟩
    obtain ⟨z, hz⟩ := hz
    have hst := I.1.stk hs
    rw [List.map_cons, List.map_cons, ea, eb] at hst
    refine ⟨nx, lv, .long z :: r.map ρ, σ, _, _, Z, ?_, h2, I.push hw (okA.lng z) (by simp [aLong]) (Or.inl rfl) (wf_tl2 hw hs)⟩
    show f_lop _ _ _ _ = _
    unfold f_lop
    rw [hst]
    simp only
    rw [hz]
  · cases h
theorem lg_rng (a b : Int64) : -1 ≤ (lg_cmp a b).toInt ∧ (lg_cmp a b).toInt ≤ 1 := by
  unfold lg_cmp
  split
  · decide
  · split <;> decide
theorem o12 (hw : wfB α = true) (I : Inv X rw Z0 σ0 vs Z ρ α lv st σ) (h : ast X (12, nx, q1, q2, ts) α k = true) : Nx X rw Z0 σ0 vs (12, nx, q1, q2, ts) lv st σ k := by
  have h : (match α.2.2.1 with
    | y :: x :: r => ((eg α x).1.1 == 1 && (eg α y).1.1 == 1) && k nx (anew α ((0, -1, 1, 0, 15), 0, 0) r)
    | _ => false) = true := h
  split at h
  · rename_i y x r hs
    simp only [Bool.and_eq_true, beq_iff_eq] at h
    obtain ⟨⟨hx, hy⟩, h2⟩ := h
    obtain ⟨a, ea, _⟩ := I.1.long hx
    obtain ⟨b, eb, _⟩ := I.1.long hy
    have hst := I.1.stk hs
    rw [List.map_cons, List.map_cons, ea, eb] at hst
    have q := lg_rng a b
    refine ⟨nx, lv, .int (lg_cmp a b) :: r.map ρ, σ, _, _, Z, ?_, h2, I.push hw (okA.wide q.1 q.2) (by simp) (Or.inl rfl) (wf_tl2 hw hs)⟩
    show f_lcmp _ _ _ _ = _
    unfold f_lcmp
    rw [hst]
  · cases h
theorem o13 (hw : wfB α = true) (I : Inv X rw Z0 σ0 vs Z ρ α lv st σ) (h : ast X (13, nx, q1, q2, ts) α k = true) : Nx X rw Z0 σ0 vs (13, nx, q1, q2, ts) lv st σ k := by
  have h : (match α.2.2.1 with
    | x :: r => (eg α x).1.1 == 0 && k nx (anew α ((1, (eg α x).1.2.1, (eg α x).1.2.2.1, 0, 0), 0, 0) r)
    | _ => false) = true := h
  split at h
  · rename_i x r hs
    simp only [Bool.and_eq_true, beq_iff_eq] at h
    obtain ⟨hx, h2⟩ := h
    obtain ⟨a, ea, x1, x2, _⟩ := I.1.int hx
    have hst := I.1.stk hs
    rw [List.map_cons, ea] at hst
    have e := Int32.toInt_toInt64 a
    refine ⟨nx, lv, .long a.toInt64 :: r.map ρ, σ, _, _, Z, ?_, h2, I.push hw (Or.inr (Or.inl ⟨rfl, _, rfl, by simp only; omega, by simp only; omega⟩)) (by simp) (Or.inl rfl) (wf_tl1 hw hs)⟩
    show f_i2l _ _ _ _ = _
    unfold f_i2l
    rw [hst]
  · cases h
theorem o14 (hw : wfB α = true) (I : Inv X rw Z0 σ0 vs Z ρ α lv st σ) (h : ast X (14, nx, q1, q2, ts) α k = true) : Nx X rw Z0 σ0 vs (14, nx, q1, q2, ts) lv st σ k := by
  have h : (match α.2.2.1 with
    | x :: r => (eg α x).1.1 == 1 && k nx (anew α (aAny, 0, 0) r)
    | _ => false) = true := h
  split at h
  · rename_i x r hs
    simp only [Bool.and_eq_true, beq_iff_eq] at h
    obtain ⟨hx, h2⟩ := h
    obtain ⟨a, ea, _⟩ := I.1.long hx
    have hst := I.1.stk hs
    rw [List.map_cons, ea] at hst
    refine ⟨nx, lv, .int a.toInt32 :: r.map ρ, σ, _, _, Z, ?_, h2, I.push hw (okA.any _) (by simp [aAny]) (Or.inl rfl) (wf_tl1 hw hs)⟩
    show f_l2i _ _ _ _ = _
    unfold f_l2i
    rw [hst]
  · cases h
theorem o15 (hw : wfB α = true) (I : Inv X rw Z0 σ0 vs Z ρ α lv st σ) (h : ast X (15, nx, q1, q2, ts) α k = true) : Nx X rw Z0 σ0 vs (15, nx, q1, q2, ts) lv st σ k := by
  have h : (match α.2.2.1 with
    | x :: r => (eg α x).1.1 == 0 && k nx (anew α ((0, -128, 127, 0, 15), 0, 0) r)
    | _ => false) = true := h
  split at h
  · rename_i x r hs
    simp only [Bool.and_eq_true, beq_iff_eq] at h
    obtain ⟨hx, h2⟩ := h
    obtain ⟨a, ea, _⟩ := I.1.int hx
    have hst := I.1.stk hs
    rw [List.map_cons, ea] at hst
    have e := Int8.toInt_toInt32 a.toInt8
    have b1 := a.toInt8.le_toInt
    have b2 := a.toInt8.toInt_lt
    refine ⟨nx, lv, .int a.toInt8.toInt32 :: r.map ρ, σ, _, _, Z, ?_, h2, I.push hw (okA.wide (by omega) (by omega)) (by simp) (Or.inl rfl) (wf_tl1 hw hs)⟩
    show f_i2b _ _ _ _ = _
    unfold f_i2b
    rw [hst]
  · cases h
theorem aSh_ok {L : List Nat} {K : Nat → Nat} {t : AV} {v : Int32} (h1 : t.2.1 ≤ v.toInt) (h2 : v.toInt ≤ t.2.2.1) (h3 : (t.2.2.2.1 : Int) ≤ v.toInt % 16) (h4 : v.toInt % 16 ≤ (t.2.2.2.2 : Int)) : okA Z L K (aSh t) (.int v) := by
  obtain ⟨_, w, e, _, _, q3, q4⟩ := (okA.mkI (Z := Z) (L := L) (K := K) h1 h2).elim id (fun h => by
    have := aI_0 t.2.1 t.2.2.1
    rcases h with ⟨h, _⟩ | ⟨h, _⟩ | ⟨h, _⟩ | ⟨h, _⟩ | ⟨h, _⟩ <;> omega)
  cases e
  refine Or.inl ⟨rfl, v, rfl, h1, h2, ?_, ?_⟩
  · show ((max _ _ : Nat) : Int) ≤ _
    omega
  · show _ ≤ ((min _ _ : Nat) : Int)
    omega
/-- a symbol's interval made smaller -/
theorem G.rs0s (h : G Z ρ α lv st σ) {i : Nat} {lo hi : Int} {v : Int32} (he : ρ i = .int v) (h1 : lo ≤ v.toInt) (h2 : v.toInt ≤ hi) : G Z ρ (rs0 α.1 i lo hi, α.2) lv st σ := by
  unfold rs0
  split
  · rename_i e hi2
    have hlt := (List.getElem?_eq_some_iff.mp hi2).1
    have key : ∀ (j : Nat) (e' : AE), (α.1.set i (aSh (0, max e.1.2.1 lo, min e.1.2.2.1 hi, e.1.2.2.2.1, e.1.2.2.2.2), e.2))[j]? = some e' → (j = i ∧ e' = (aSh (0, max e.1.2.1 lo, min e.1.2.2.1 hi, e.1.2.2.2.1, e.1.2.2.2.2), e.2)) ∨ (¬ j = i ∧ α.1[j]? = some e') := by
      intro j e' hj
      by_cases hji : j = i
      · subst hji
        rw [List.getElem?_set_self hlt] at hj
        exact Or.inl ⟨rfl, (Option.some.inj hj).symm⟩
      · rw [List.getElem?_set_ne (Ne.symm hji)] at hj
        exact Or.inr ⟨hji, hj⟩
    have q := h.1 i e hi2
    refine ⟨fun j e' hj => ?_, h.2.1, h.2.2.1, h.2.2.2.1, fun a b e1 e2 ha hb t1 t2 hr => ?_, h.2.2.2.2.2⟩
    · rcases key j e' hj with ⟨rfl, rfl⟩ | ⟨_, hj⟩
      · refine ⟨?_, q.2⟩
        rw [he]
        have qi := q.1
        rw [he] at qi
        have t0 : e.1.1 = 0 := by
          rcases qi with ⟨t, _⟩ | ⟨_, _, q, _⟩ | ⟨_, _, q, _⟩ | ⟨_, q | ⟨_, q, _⟩⟩ | ⟨_, _, q, _⟩ | ⟨_, q⟩
          · exact t
          all_goals cases q
        obtain ⟨w, ew, b1, b2, b3, b4⟩ := qi.i t0
        cases ew
        exact aSh_ok (by simp only; omega) (by simp only; omega) b3 b4
      · exact h.1 j e' hj
    · have k1 : α.1[a]? = some e1 ∨ False := by
        rcases key a e1 ha with ⟨_, q⟩ | ⟨_, q⟩
        · rw [q] at t1; cases t1
        · exact Or.inl q
      have k2 : α.1[b]? = some e2 ∨ False := by
        rcases key b e2 hb with ⟨_, q⟩ | ⟨_, q⟩
        · rw [q] at t2; cases t2
        · exact Or.inl q
      exact h.2.2.2.2.1 a b e1 e2 (k1.elim id False.elim) (k2.elim id False.elim) t1 t2 hr
  · exact h
theorem rs0_len (env : List AE) (i : Nat) (lo hi : Int) : (rs0 env i lo hi).length = env.length := by
  unfold rs0
  split
  · rw [List.length_set]
  · rfl
theorem rs0_4 {env : List AE} {i a : Nat} {lo hi : Int} {e : AE} (h : (rs0 env i lo hi)[a]? = some e) (t4 : e.1.1 = 4) : env[a]? = some e := by
  unfold rs0 at h
  split at h
  · rename_i e0 he
    have hlt := (List.getElem?_eq_some_iff.mp he).1
    by_cases ha : a = i
    · subst ha
      rw [List.getElem?_set_self hlt] at h
      cases h
      cases t4
    · rw [List.getElem?_set_ne (Ne.symm ha)] at h
      exact h
  · exact h
theorem Inv.rsts (I : Inv X rw Z0 σ0 vs Z ρ α lv st σ) {i : Nat} {lo hi : Int} {v : Int32} (h0 : (eg α i).1.1 = 0) (he : ρ i = .int v) (h1 : lo ≤ v.toInt) (h2 : v.toInt ≤ hi) : Inv X rw Z0 σ0 vs Z ρ (rst α i lo hi) lv st σ := by
  unfold rst
  have g1 := I.1.rs0s he h1 h2
  split
  · exact ⟨g1, I.2.1, I.2.2.1, I.2.2.2.1, by show _ ≤ (rs0 _ _ _ _).length; rw [rs0_len]; exact I.2.2.2.2.1, fun a e b ha t4 hb h0 => I.2.2.2.2.2 a e b (rs0_4 ha t4) t4 hb h0⟩
  · rename_i hd
    rcases (I.1.ok (i := i) (by omega)).2.1 with q | ⟨a, b, q1, q2, q3⟩
    · exact absurd q hd
    · rw [he] at q1
      cases q1
      have g2 := g1.rs0s (i := (eg α i).2.1 - 1) (lo := lo - (eg α i).2.2) (hi := hi - (eg α i).2.2) q2 (by omega) (by omega)
      exact ⟨g2, I.2.1, I.2.2.1, I.2.2.2.1, by show _ ≤ (rs0 (rs0 _ _ _ _) _ _ _).length; rw [rs0_len, rs0_len]; exact I.2.2.2.2.1, fun a e b ha t4 hb h0 => I.2.2.2.2.2 a e b (rs0_4 (rs0_4 ha t4) t4) t4 hb h0⟩
theorem G.nd (h : G Z ρ α lv st σ) {i : Nat} : ¬ dead α i = true := by
  intro hd
  unfold dead at hd
  simp only [Bool.and_eq_true, Bool.or_eq_true, decide_eq_true_eq] at hd
  obtain ⟨t0, hd⟩ := hd
  rcases hd with hd | ⟨_, t1, hd⟩
  · obtain ⟨v, _, b1, b2, _⟩ := h.int t0
    omega
  · obtain ⟨v, _, b1, b2, _⟩ := h.int t1
    omega
theorem rst_tag {i j : Nat} {lo hi : Int} (h : (eg α j).1.1 = 0) : (eg (rst α i lo hi) j).1.1 = 0 := by
  have key : ∀ (env : List AE) (i j : Nat) (lo hi : Int), (env.getD j ((9, 0, 0, 0, 0), 0, 0)).1.1 = 0 → ((rs0 env i lo hi).getD j ((9, 0, 0, 0, 0), 0, 0)).1.1 = 0 := by
    intro env i j lo hi h
    unfold rs0
    split
    · rename_i e he
      have hlt := (List.getElem?_eq_some_iff.mp he).1
      rw [List.getD_eq_getElem?_getD]
      by_cases hji : j = i
      · subst hji
        rw [List.getElem?_set_self hlt]
        rfl
      · rw [List.getElem?_set_ne (Ne.symm hji), ← List.getD_eq_getElem?_getD]
        exact h
    · exact h
  unfold rst
  split
  · exact key _ _ _ _ _ h
  · exact key _ _ _ _ _ (key _ _ _ _ _ h)
/-- a comparison that holds tells of both -/
theorem Inv.arefs (I : Inv X rw Z0 σ0 vs Z ρ α lv st σ) {c : Int} {i j : Nat} {a b : Int32} (hi : (eg α i).1.1 = 0) (hj : (eg α j).1.1 = 0) (ea : ρ i = .int a) (eb : ρ j = .int b) (hc : icd c a b = true) : Inv X rw Z0 σ0 vs Z ρ (aref α c i j) lv st σ := by
  obtain ⟨a', e1, x1, x2, _⟩ := I.1.int hi
  rw [ea] at e1
  cases e1
  obtain ⟨b', e2, y1, y2, _⟩ := I.1.int hj
  rw [eb] at e2
  cases e2
  have ra := n_rng a
  have rb := n_rng b
  unfold icd at hc
  unfold aref
  by_cases c0 : c = 0
  · rw [if_pos c0] at hc ⊢
    rw [decide_eq_true_eq] at hc
    subst hc
    exact (I.rsts hi ea (by omega) (by omega)).rsts (rst_tag hj) eb (by omega) (by omega)
  rw [if_neg c0] at hc ⊢
  by_cases c1 : c = 1
  · rw [if_pos c1] at hc ⊢
    rw [decide_eq_true_eq] at hc
    have hne : ¬ a.toInt = b.toInt := fun e => hc (Int32.toInt_inj.mp e)
    split
    · rename_i hq
      unfold aCst at hq
      rw [decide_eq_true_eq] at hq
      exact I.rsts hi ea (by split <;> omega) (by split <;> omega)
    · split
      · rename_i hq
        unfold aCst at hq
        rw [decide_eq_true_eq] at hq
        exact I.rsts hj eb (by split <;> omega) (by split <;> omega)
      · exact I
  rw [if_neg c1] at hc ⊢
  by_cases c2 : c = 2
  · rw [if_pos c2] at hc ⊢
    rw [decide_eq_true_eq, Int32.lt_iff_toInt_lt] at hc
    exact (I.rsts hi ea (by omega) (by omega)).rsts (rst_tag hj) eb (by omega) (by omega)
  rw [if_neg c2] at hc ⊢
  by_cases c3 : c = 3
  · rw [if_pos c3] at hc ⊢
    rw [decide_eq_true_eq, Int32.le_iff_toInt_le] at hc
    exact (I.rsts hi ea (by omega) (by omega)).rsts (rst_tag hj) eb (by omega) (by omega)
  rw [if_neg c3] at hc ⊢
  by_cases c4 : c = 4
  · rw [if_pos c4] at hc ⊢
    rw [decide_eq_true_eq, Int32.lt_iff_toInt_lt] at hc
    exact (I.rsts hi ea (by omega) (by omega)).rsts (rst_tag hj) eb (by omega) (by omega)
  rw [if_neg c4] at hc ⊢
  rw [decide_eq_true_eq, Int32.le_iff_toInt_le] at hc
  exact (I.rsts hi ea (by omega) (by omega)).rsts (rst_tag hj) eb (by omega) (by omega)
theorem icd_neg {c : Int} {a b : Int32} (h : ¬ icd c a b = true) : icd (cneg c) a b = true := by
  unfold icd at h ⊢
  unfold cneg
  by_cases c0 : c = 0
  · simp only [c0, ↓reduceIte, decide_eq_true_eq, Int.reduceEq] at h ⊢; exact h
  by_cases c1 : c = 1
  · simp only [c1, ↓reduceIte, decide_eq_true_eq, Int.reduceEq, Classical.not_not] at h ⊢; exact h
  by_cases c2 : c = 2
  · simp only [c2, ↓reduceIte, decide_eq_true_eq, Int.reduceEq, Int32.lt_iff_toInt_lt, Int32.le_iff_toInt_le] at h ⊢; omega
  by_cases c3 : c = 3
  · simp only [c3, ↓reduceIte, decide_eq_true_eq, Int.reduceEq, Int32.lt_iff_toInt_lt, Int32.le_iff_toInt_le] at h ⊢; omega
  by_cases c4 : c = 4
  · simp only [c4, ↓reduceIte, decide_eq_true_eq, Int.reduceEq, Int32.lt_iff_toInt_lt, Int32.le_iff_toInt_le] at h ⊢; omega
  · simp only [c0, c1, c2, c3, c4, ↓reduceIte, decide_eq_true_eq, Int.reduceEq, Int32.lt_iff_toInt_lt, Int32.le_iff_toInt_le] at h ⊢; omega
theorem abr_ok (I : Inv X rw Z0 σ0 vs Z ρ α lv st σ) {c : Int} {i j tgt : Nat} {r : List Nat} {a b : Int32} (hi : (eg α i).1.1 = 0) (hj : (eg α j).1.1 = 0) (ea : ρ i = .int a) (eb : ρ j = .int b) (h : abr α c i j r tgt nx k = true) : ∃ α', k (if icd c a b then tgt else nx) α' = true ∧ Inv X rw Z0 σ0 vs Z ρ α' lv (r.map ρ) σ := by
  unfold abr at h
  simp only [Bool.and_eq_true, Bool.or_eq_true] at h
  by_cases hc : icd c a b = true
  · rw [if_pos hc]
    have J := I.arefs hi hj ea eb hc
    rcases h.1 with q | q | q
    · exact absurd q J.1.nd
    · exact absurd q J.1.nd
    · exact ⟨_, q, J.st r⟩
  · rw [if_neg hc]
    have J := I.arefs hi hj ea eb (icd_neg hc)
    rcases h.2 with q | q | q
    · exact absurd q J.1.nd
    · exact absurd q J.1.nd
    · exact ⟨_, q, J.st r⟩
theorem eg_app {e : AE} {i : Nat} (h : i < α.1.length) (l : List Nat) : eg (anew α e l) i = eg α i := by
  unfold eg anew
  simp only
  rw [List.getD_eq_getElem?_getD, List.getD_eq_getElem?_getD, List.getElem?_append_left h]
theorem eg_new {e : AE} (l : List Nat) : eg (anew α e l) α.1.length = e := by
  unfold eg anew
  simp only
  rw [List.getD_eq_getElem?_getD, List.getElem?_append_right (Nat.le_refl _), Nat.sub_self]
  rfl
theorem o16 (hw : wfB α = true) (I : Inv X rw Z0 σ0 vs Z ρ α lv st σ) (h : ast X (16, nx, q1, q2, ts) α k = true) : Nx X rw Z0 σ0 vs (16, nx, q1, q2, ts) lv st σ k := by
  have h : (match α.2.2.1 with
    | x :: r => (eg α x).1.1 == 0 && abr (anew α (aI 0 0, 0, 0) r) q1 x α.1.length r q2.toNat nx k
    | _ => false) = true := h
  split at h
  · rename_i x r hs
    simp only [Bool.and_eq_true, beq_iff_eq] at h
    obtain ⟨hx, h2⟩ := h
    obtain ⟨a, ea, _⟩ := I.1.int hx
    have hxl := (I.1.ok (i := x) (by omega)).2.2
    have hst := I.1.stk hs
    rw [List.map_cons, ea] at hst
    have J := I.push hw (l := r) (e := (aI 0 0, 0, 0)) (v := .int 0) (okA.mkI (by rw [Int32.toInt_zero]; omega) (by rw [Int32.toInt_zero]; omega)) (aI_ne _ _) (Or.inl rfl) (wf_tl1 hw hs)
    obtain ⟨α', k1, J'⟩ := abr_ok J (i := x) (j := α.1.length) (a := a) (b := 0) (by rw [eg_app hxl]; exact hx) (by rw [eg_new]; exact aI_0 _ _) (by rw [ru_ne _ (by omega)]; exact ea) (ru_self _ _ _) h2
    rw [map_ru (wf_tl1 hw hs)] at J'
    refine ⟨_, lv, r.map ρ, σ, α', _, Z, ?_, k1, J'⟩
    show f_if _ _ _ _ = _
    unfold f_if
    rw [hst]
  · cases h
theorem o17 (hw : wfB α = true) (I : Inv X rw Z0 σ0 vs Z ρ α lv st σ) (h : ast X (17, nx, q1, q2, ts) α k = true) : Nx X rw Z0 σ0 vs (17, nx, q1, q2, ts) lv st σ k := by
  have h : (match α.2.2.1 with
    | y :: x :: r => ((eg α x).1.1 == 0 && (eg α y).1.1 == 0) && abr α q1 x y r q2.toNat nx k
    | _ => false) = true := h
  split at h
  · rename_i y x r hs
    simp only [Bool.and_eq_true, beq_iff_eq] at h
    obtain ⟨⟨hx, hy⟩, h2⟩ := h
    obtain ⟨a, ea, _⟩ := I.1.int hx
    obtain ⟨b, eb, _⟩ := I.1.int hy
    have hst := I.1.stk hs
    rw [List.map_cons, List.map_cons, ea, eb] at hst
    obtain ⟨α', k1, J'⟩ := abr_ok I hx hy ea eb h2
    refine ⟨_, lv, r.map ρ, σ, α', ρ, Z, ?_, k1, J'⟩
    show f_icmp _ _ _ _ = _
    unfold f_icmp
    rw [hst]
  · cases h
/-- a symbol is told null, or not -/
theorem Inv.set (I : Inv X rw Z0 σ0 vs Z ρ α lv st σ) {i : Nat} {t : AV} (hi : i < α.1.length) (h4 : ¬ t.1 = 4) (hv : okA Z (sL σ) (sK σ) t (ρ i)) (r : List Nat) : Inv X rw Z0 σ0 vs Z ρ (α.1.set i (t, 0, 0), α.2.1, r, α.2.2.2) lv (r.map ρ) σ := by
  have key : ∀ (j : Nat) (e' : AE), (α.1.set i (t, 0, 0))[j]? = some e' → (j = i ∧ e' = (t, 0, 0)) ∨ (¬ j = i ∧ α.1[j]? = some e') := by
    intro j e' hj
    by_cases hji : j = i
    · subst hji
      rw [List.getElem?_set_self hi] at hj
      exact Or.inl ⟨rfl, (Option.some.inj hj).symm⟩
    · rw [List.getElem?_set_ne (Ne.symm hji)] at hj
      exact Or.inr ⟨hji, hj⟩
  refine ⟨⟨fun j e' hj => ?_, I.1.2.1, rfl, I.1.2.2.2.1, fun a b e1 e2 ha hb t1 t2 hr => ?_, I.1.2.2.2.2.2⟩, I.2.1, I.2.2.1, I.2.2.2.1, by show _ ≤ (α.1.set i (t, 0, 0)).length; rw [List.length_set]; exact I.2.2.2.2.1, fun a e b ha t4 hb h0 => ?_⟩
  · rcases key j e' hj with ⟨rfl, rfl⟩ | ⟨_, hj⟩
    · exact ⟨hv, Or.inl rfl⟩
    · exact I.1.1 j e' hj
  · have k1 : α.1[a]? = some e1 := by
      rcases key a e1 ha with ⟨_, q⟩ | ⟨_, q⟩
      · rw [q] at t1; exact absurd t1 h4
      · exact q
    have k2 : α.1[b]? = some e2 := by
      rcases key b e2 hb with ⟨_, q⟩ | ⟨_, q⟩
      · rw [q] at t2; exact absurd t2 h4
      · exact q
    exact I.1.2.2.2.2.1 a b e1 e2 k1 k2 t1 t2 hr
  · rcases key a e ha with ⟨_, q⟩ | ⟨_, q⟩
    · rw [q] at t4; exact absurd t4 h4
    · exact I.2.2.2.2.2 a e b q t4 hb h0
theorem nulls (I : Inv X rw Z0 σ0 vs Z ρ α lv st σ) {x pn pr : Nat} {r : List Nat} (h : (if (eg α x).1.1 = 3 then k pr (α.1.set x (aRef (akind α x), 0, 0), α.2.1, r, α.2.2.2) && k pn (α.1.set x (aNull, 0, 0), α.2.1, r, α.2.2.2)
      else if (eg α x).1.1 = 5 then k pn (asst α r) else if oTag (eg α x).1.1 then k pr (asst α r) else false) = true) : (ρ x = .null ∧ ∃ α', k pn α' = true ∧ Inv X rw Z0 σ0 vs Z ρ α' lv (r.map ρ) σ) ∨ (∃ b, ρ x = .ref b ∧ ∃ α', k pr α' = true ∧ Inv X rw Z0 σ0 vs Z ρ α' lv (r.map ρ) σ) := by
  split at h
  · rename_i h3
    obtain ⟨h1, h2⟩ := kN h
    have q := I.1.ok (i := x) (by omega)
    rcases q.1.o h3 with e | ⟨b, e, z, kb⟩
    · exact Or.inl ⟨e, _, h2, I.set q.2.2 (by decide) (Or.inr (Or.inr (Or.inr (Or.inr (Or.inr ⟨rfl, e⟩))))) r⟩
    · exact Or.inr ⟨b, e, _, h1, I.set q.2.2 (by simp [aRef]) (Or.inr (Or.inr (Or.inl ⟨rfl, b, e, z, by rw [kb]; show _ = ((akind α x : Nat) : Int).toNat; unfold akind; omega⟩))) r⟩
  · split at h
    · rename_i h5
      exact Or.inl ⟨(I.1.ok (i := x) (by omega)).1.n h5, _, h, I.st r⟩
    · split at h
      · rename_i ho
        obtain ⟨b, e, _⟩ := I.1.obj ho
        exact Or.inr ⟨b, e, _, h, I.st r⟩
      · cases h
theorem o18 (I : Inv X rw Z0 σ0 vs Z ρ α lv st σ) (h : ast X (18, nx, q1, q2, ts) α k = true) : Nx X rw Z0 σ0 vs (18, nx, q1, q2, ts) lv st σ k := by
  have h : (match α.2.2.1 with
    | x :: r => if (eg α x).1.1 = 3 then k nx (α.1.set x (aRef (akind α x), 0, 0), α.2.1, r, α.2.2.2) && k q2.toNat (α.1.set x (aNull, 0, 0), α.2.1, r, α.2.2.2)
      else if (eg α x).1.1 = 5 then k q2.toNat (asst α r) else if oTag (eg α x).1.1 then k nx (asst α r) else false
    | _ => false) = true := h
  split at h
  · rename_i x r hs
    have hst := I.1.stk hs
    rw [List.map_cons] at hst
    rcases nulls I h with ⟨e, α', k1, J⟩ | ⟨b, e, α', k1, J⟩
    · refine ⟨_, lv, r.map ρ, σ, α', ρ, Z, ?_, k1, J⟩
      show f_ifnull _ _ _ _ = _
      unfold f_ifnull
      rw [hst, e]
    · refine ⟨_, lv, r.map ρ, σ, α', ρ, Z, ?_, k1, J⟩
      show f_ifnull _ _ _ _ = _
      unfold f_ifnull
      rw [hst, e]
  · cases h
theorem o19 (I : Inv X rw Z0 σ0 vs Z ρ α lv st σ) (h : ast X (19, nx, q1, q2, ts) α k = true) : Nx X rw Z0 σ0 vs (19, nx, q1, q2, ts) lv st σ k := by
  have h : (match α.2.2.1 with
    | x :: r => if (eg α x).1.1 = 3 then k q2.toNat (α.1.set x (aRef (akind α x), 0, 0), α.2.1, r, α.2.2.2) && k nx (α.1.set x (aNull, 0, 0), α.2.1, r, α.2.2.2)
      else if (eg α x).1.1 = 5 then k nx (asst α r) else if oTag (eg α x).1.1 then k q2.toNat (asst α r) else false
    | _ => false) = true := h
  split at h
  · rename_i x r hs
    have hst := I.1.stk hs
    rw [List.map_cons] at hst
    rcases nulls I h with ⟨e, α', k1, J⟩ | ⟨b, e, α', k1, J⟩
    · refine ⟨_, lv, r.map ρ, σ, α', ρ, Z, ?_, k1, J⟩
      show f_ifnonnull _ _ _ _ = _
      unfold f_ifnonnull
      rw [hst, e]
    · refine ⟨_, lv, r.map ρ, σ, α', ρ, Z, ?_, k1, J⟩
      show f_ifnonnull _ _ _ _ = _
      unfold f_ifnonnull
      rw [hst, e]
  · cases h
theorem o20 (I : Inv X rw Z0 σ0 vs Z ρ α lv st σ) (h : ast X (20, nx, q1, q2, ts) α k = true) : Nx X rw Z0 σ0 vs (20, nx, q1, q2, ts) lv st σ k := ⟨_, lv, st, σ, α, ρ, Z, rfl, h, I⟩
theorem o21 (I : Inv X rw Z0 σ0 vs Z ρ α lv st σ) (h : ast X (21, nx, q1, q2, ts) α k = true) : Nx X rw Z0 σ0 vs (21, nx, q1, q2, ts) lv st σ k := by
  have h : (match α.2.2.1 with
    | x :: r => (eg α x).1.1 == 0 && (k q2.toNat (asst α r) && (List.range ts.length).all (fun j => dead (rst α x (q1 + j) (q1 + j)) x || k (ts.getD j q2.toNat) (asst (rst α x (q1 + j) (q1 + j)) r)))
    | _ => false) = true := h
  split at h
  · rename_i x r hs
    simp only [Bool.and_eq_true, beq_iff_eq, List.all_eq_true] at h
    obtain ⟨hx, h1, h2⟩ := h
    obtain ⟨a, ea, _⟩ := I.1.int hx
    have hst := I.1.stk hs
    rw [List.map_cons, ea] at hst
    have hp : pst (21, nx, q1, q2, ts) lv st σ = some (swt (21, nx, q1, q2, ts) a, lv, r.map ρ, σ) := by
      show f_switch _ _ _ _ = _
      unfold f_switch
      rw [hst]
    have dflt : swt (21, nx, q1, q2, ts) a = q2.toNat → Nx X rw Z0 σ0 vs (21, nx, q1, q2, ts) lv st σ k := fun e => ⟨_, lv, r.map ρ, σ, _, ρ, Z, by rw [hp, e], h1, I.st r⟩
    by_cases c1 : a.toInt < q1
    · exact dflt (by unfold swt; rw [if_pos c1])
    · by_cases c2 : (a.toInt - q1).toNat < ts.length
      · have q := h2 (a.toInt - q1).toNat (List.mem_range.mpr c2)
        rw [Bool.or_eq_true] at q
        have J := I.rsts (i := x) (lo := q1 + ((a.toInt - q1).toNat : Int)) (hi := q1 + ((a.toInt - q1).toNat : Int)) hx ea (by omega) (by omega)
        rcases q with q | q
        · exact absurd q J.1.nd
        · refine ⟨_, lv, r.map ρ, σ, _, ρ, Z, ?_, q, J.st r⟩
          rw [hp]
          unfold swt
          rw [if_neg c1]
      · refine dflt ?_
        unfold swt
        rw [if_neg c1]
        simp only
        rw [List.getD_eq_getElem?_getD, List.getElem?_eq_none (by omega)]
        rfl
  · cases h
end BR
