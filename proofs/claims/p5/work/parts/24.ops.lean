theorem kN {a b : Bool} (h : (a && b) = true) : a = true ∧ b = true := Bool.and_eq_true_iff.mp h
theorem aI_0 (lo hi : Int) : (aI lo hi).1 = 0 := by unfold aI; split <;> rfl
theorem aI_ne (lo hi : Int) : ¬ (aI lo hi).1 = 4 := by rw [aI_0]; decide
section OPS
variable {X : CT} {rw : Nat → Prop} {Z0 : Nat → Prop} {σ0 : ps} {vs : List Value} {Z : Nat → Prop} {ρ : Nat → Value} {α : AS} {lv : LV} {st : List Value} {σ : ps} {k : Nat → AS → Bool} {nx : Nat} {x y : Int} {ts : List Nat}
theorem alk_ok {l : List (Nat × Nat)} {i s : Nat} (h : alk l i = some s) (ρ : Nat → Value) : plk (l.map (fun q => (q.1, ρ q.2))) i = some (ρ s) := by
  induction l with
  | nil => cases h
  | cons q r ih =>
    obtain ⟨j, w⟩ := q
    unfold alk at h
    show (if j = i then some (ρ w) else plk (r.map (fun q => (q.1, ρ q.2))) i) = some (ρ s)
    by_cases hj : j = i
    · rw [if_pos hj] at h ⊢; cases h; rfl
    · rw [if_neg hj] at h ⊢; exact ih h
theorem alk_mem {l : List (Nat × Nat)} {i s : Nat} (h : alk l i = some s) : (i, s) ∈ l := by
  induction l with
  | nil => cases h
  | cons q r ih =>
    obtain ⟨j, w⟩ := q
    unfold alk at h
    by_cases hj : j = i
    · rw [if_pos hj] at h; cases h; subst hj; exact List.mem_cons_self
    · rw [if_neg hj] at h; exact List.mem_cons_of_mem _ (ih h)
theorem G.lk (h : G Z ρ α lv st σ) {i s : Nat} (hs : alk α.2.1 i = some s) : plk lv i = some (ρ s) := by
  rw [h.2.1]; exact alk_ok hs ρ
theorem G.cat (h : G Z ρ α lv st σ) {i : Nat} (hi : i < α.1.length) : (ρ i).category = if (eg α i).1.1 = 1 then 2 else 1 := by
  have q := (h.1 i _ (eg_get hi)).1
  rcases q with ⟨t, x, e, _⟩ | ⟨t, x, e, _⟩ | ⟨t, x, e, _⟩ | ⟨t, q⟩ | ⟨t, x, e, _⟩ | ⟨t, e⟩
  · rw [e, if_neg (by omega)]; rfl
  · rw [e, if_pos t]; rfl
  · rw [e, if_neg (by omega)]; rfl
  · rw [if_neg (by omega)]
    rcases q with e | ⟨b, e, _⟩ <;> rw [e] <;> rfl
  · rw [e, if_neg (by omega)]; rfl
  · rw [e, if_neg (by omega)]; rfl
theorem G.st1 (hw : wfB α = true) (h : G Z ρ α lv st σ) (i s : Nat) : pst1 lv i (ρ s) = (ast1 α i s).map (fun q => (q.1, ρ q.2)) := by
  unfold pst1 ast1
  rw [h.2.1, List.map_cons]
  congr 1
  rw [List.filter_map]
  congr 1
  apply List.filter_congr
  intro q hq
  have hc := h.cat (wf_lv hw q hq)
  simp only [Function.comp]
  rw [hc]
  by_cases ht : (eg α q.2).1.1 = 1
  · simp [ht]
  · have hb : ((eg α q.2).1.1 == 1) = false := beq_eq_false_iff_ne.mpr ht
    simp [ht, hb]
theorem G.st2 (hw : wfB α = true) (h : G Z ρ α lv st σ) (i s : Nat) : pst2 lv i (ρ s) = (ast2 α i s).map (fun q => (q.1, ρ q.2)) := by
  unfold pst2 ast2
  rw [h.2.1, List.map_cons]
  congr 1
  rw [List.filter_map]
  congr 1
  apply List.filter_congr
  intro q hq
  have hc := h.cat (wf_lv hw q hq)
  simp only [Function.comp]
  rw [hc]
  by_cases ht : (eg α q.2).1.1 = 1
  · simp [ht]
  · have hb : ((eg α q.2).1.1 == 1) = false := beq_eq_false_iff_ne.mpr ht
    simp [ht, hb]
theorem Inv.slv (I : Inv X rw Z0 σ0 vs Z ρ α lv st σ) (l : List (Nat × Nat)) (r : List Nat) : Inv X rw Z0 σ0 vs Z ρ (aslv α l r) (l.map (fun q => (q.1, ρ q.2))) (r.map ρ) σ := ⟨⟨I.1.1, rfl, rfl, I.1.2.2.2.1, I.1.2.2.2.2.1, I.1.2.2.2.2.2⟩, I.2.1, I.2.2.1, I.2.2.2⟩
theorem o0 (hw : wfB α = true) (I : Inv X rw Z0 σ0 vs Z ρ α lv st σ) (h : ast X (0, nx, x, y, ts) α k = true) : Nx X rw Z0 σ0 vs (0, nx, x, y, ts) lv st σ k := by
  obtain ⟨h1, h2⟩ := kN h
  unfold inR at h1
  rw [Bool.and_eq_true, decide_eq_true_eq, decide_eq_true_eq] at h1
  simp only at h1 h2
  have e := n_ofInt h1.1 h1.2
  exact ⟨nx, lv, _, σ, _, _, Z, rfl, h2, by rw [I.1.2.2.1]; exact I.push hw (v := .int (Int32.ofInt x)) (okA.mkI (by omega) (by omega)) (aI_ne _ _) (Or.inl rfl) (wf_st hw)⟩
theorem o1 (hw : wfB α = true) (I : Inv X rw Z0 σ0 vs Z ρ α lv st σ) (h : ast X (1, nx, x, y, ts) α k = true) : Nx X rw Z0 σ0 vs (1, nx, x, y, ts) lv st σ k := by
  obtain ⟨h1, h2⟩ := kN h
  rw [Bool.and_eq_true, decide_eq_true_eq, decide_eq_true_eq] at h1
  simp only at h1 h2
  have e : (Int64.ofInt x).toInt = x := Int64.toInt_ofInt_of_le (by omega) (by omega)
  exact ⟨nx, lv, _, σ, _, _, Z, rfl, h2, by rw [I.1.2.2.1]; exact I.push hw (v := .long (Int64.ofInt x)) (Or.inr (Or.inl ⟨rfl, _, rfl, by simp only; omega, by simp only; omega⟩)) (by simp) (Or.inl rfl) (wf_st hw)⟩
theorem o2 (hw : wfB α = true) (I : Inv X rw Z0 σ0 vs Z ρ α lv st σ) (h : ast X (2, nx, x, y, ts) α k = true) : Nx X rw Z0 σ0 vs (2, nx, x, y, ts) lv st σ k :=
  ⟨nx, lv, _, σ, _, _, Z, rfl, h, by rw [I.1.2.2.1]; exact I.push hw (v := .null) (Or.inr (Or.inr (Or.inr (Or.inr (Or.inr ⟨rfl, rfl⟩))))) (by decide) (Or.inl rfl) (wf_st hw)⟩
theorem o3 (hw : wfB α = true) (I : Inv X rw Z0 σ0 vs Z ρ α lv st σ) (h : ast X (3, nx, x, y, ts) α k = true) : Nx X rw Z0 σ0 vs (3, nx, x, y, ts) lv st σ k := by
  have h : (match alk α.2.1 x.toNat with
    | some s => (eg α s).1.1 == 0 && k nx (asst α (s :: α.2.2.1))
    | none => false) = true := h
  split at h
  · rename_i s hs
    obtain ⟨h1, h2⟩ := kN h
    rw [beq_iff_eq] at h1
    obtain ⟨v, e, _⟩ := I.1.int h1
    refine ⟨nx, lv, .int v :: st, σ, _, ρ, Z, ?_, h2, ?_⟩
    · show f_iload _ _ _ _ = _
      unfold f_iload
      simp only
      rw [I.1.lk hs, e]
    · have := I.st (s :: α.2.2.1)
      rw [List.map_cons, e, ← I.1.2.2.1] at this
      exact this
  · cases h
theorem o4 (hw : wfB α = true) (I : Inv X rw Z0 σ0 vs Z ρ α lv st σ) (h : ast X (4, nx, x, y, ts) α k = true) : Nx X rw Z0 σ0 vs (4, nx, x, y, ts) lv st σ k := by
  have h : (match alk α.2.1 x.toNat with
    | some s => (eg α s).1.1 == 1 && k nx (asst α (s :: α.2.2.1))
    | none => false) = true := h
  split at h
  · rename_i s hs
    obtain ⟨h1, h2⟩ := kN h
    rw [beq_iff_eq] at h1
    obtain ⟨v, e, _⟩ := I.1.long h1
    refine ⟨nx, lv, .long v :: st, σ, _, ρ, Z, ?_, h2, ?_⟩
    · show f_lload _ _ _ _ = _
      unfold f_lload
      simp only
      rw [I.1.lk hs, e]
    · have := I.st (s :: α.2.2.1)
      rw [List.map_cons, e, ← I.1.2.2.1] at this
      exact this
  · cases h
theorem o5 (hw : wfB α = true) (I : Inv X rw Z0 σ0 vs Z ρ α lv st σ) (h : ast X (5, nx, x, y, ts) α k = true) : Nx X rw Z0 σ0 vs (5, nx, x, y, ts) lv st σ k := by
  have h : (match alk α.2.1 x.toNat with
    | some s => isRefT (eg α s).1.1 && k nx (asst α (s :: α.2.2.1))
    | none => false) = true := h
  split at h
  · rename_i s hs
    obtain ⟨h1, h2⟩ := kN h
    have hr := (I.1.ok (isRefT_ne h1)).1.ref h1
    refine ⟨nx, lv, ρ s :: st, σ, _, ρ, Z, ?_, h2, ?_⟩
    · show f_aload _ _ _ _ = _
      unfold f_aload
      simp only
      rw [I.1.lk hs]
      rcases hr with e | ⟨b, e⟩ <;> rw [e]
    · have := I.st (s :: α.2.2.1)
      rw [List.map_cons, ← I.1.2.2.1] at this
      exact this
  · cases h
theorem o6 (hw : wfB α = true) (I : Inv X rw Z0 σ0 vs Z ρ α lv st σ) (h : ast X (6, nx, x, y, ts) α k = true) : Nx X rw Z0 σ0 vs (6, nx, x, y, ts) lv st σ k := by
  have h : (match α.2.2.1 with
    | s :: r => (eg α s).1.1 == 0 && k nx (aslv α (ast1 α x.toNat s) r)
    | _ => false) = true := h
  split at h
  · rename_i s r hs
    obtain ⟨h1, h2⟩ := kN h
    rw [beq_iff_eq] at h1
    obtain ⟨v, e, _⟩ := I.1.int h1
    refine ⟨nx, _, r.map ρ, σ, _, ρ, Z, ?_, h2, I.slv _ _⟩
    show f_istore _ _ _ _ = _
    unfold f_istore
    rw [I.1.stk hs, List.map_cons, e]
    simp only
    rw [← e, I.1.st1 hw]
  · cases h
theorem o7 (hw : wfB α = true) (I : Inv X rw Z0 σ0 vs Z ρ α lv st σ) (h : ast X (7, nx, x, y, ts) α k = true) : Nx X rw Z0 σ0 vs (7, nx, x, y, ts) lv st σ k := by
  have h : (match α.2.2.1 with
    | s :: r => (eg α s).1.1 == 1 && k nx (aslv α (ast2 α x.toNat s) r)
    | _ => false) = true := h
  split at h
  · rename_i s r hs
    obtain ⟨h1, h2⟩ := kN h
    rw [beq_iff_eq] at h1
    obtain ⟨v, e, _⟩ := I.1.long h1
    refine ⟨nx, _, r.map ρ, σ, _, ρ, Z, ?_, h2, I.slv _ _⟩
    show f_lstore _ _ _ _ = _
    unfold f_lstore
    rw [I.1.stk hs, List.map_cons, e]
    simp only
    rw [← e, I.1.st2 hw]
  · cases h
theorem o8 (hw : wfB α = true) (I : Inv X rw Z0 σ0 vs Z ρ α lv st σ) (h : ast X (8, nx, x, y, ts) α k = true) : Nx X rw Z0 σ0 vs (8, nx, x, y, ts) lv st σ k := by
  have h : (match α.2.2.1 with
    | s :: r => isRefT (eg α s).1.1 && k nx (aslv α (ast1 α x.toNat s) r)
    | _ => false) = true := h
  split at h
  · rename_i s r hs
    obtain ⟨h1, h2⟩ := kN h
    have hr := (I.1.ok (isRefT_ne h1)).1.ref h1
    refine ⟨nx, _, r.map ρ, σ, _, ρ, Z, ?_, h2, I.slv _ _⟩
    show f_astore _ _ _ _ = _
    unfold f_astore
    rw [I.1.stk hs, List.map_cons]
    rw [← I.1.st1 hw]
    rcases hr with e | ⟨b, e⟩ <;> rw [e]
  · cases h
/-- a sum's root -/
theorem adep_ok (h : G Z ρ α lv st σ) (hw : wfB α = true) {i : Nat} {a b : Int32} {c : Int} (hi : i < α.1.length) (ha : ρ i = .int a) (hb : b.toInt = a.toInt + c) : (adep α i c).1 = 0 ∨ ∃ x y : Int32, Value.int b = .int x ∧ ρ ((adep α i c).1 - 1) = .int y ∧ x.toInt = y.toInt + (adep α i c).2 ∧ (adep α i c).1 - 1 < α.1.length := by
  right
  unfold adep
  by_cases h0 : (eg α i).2.1 = 0
  · rw [if_pos h0]
    exact ⟨b, a, rfl, ha, hb, hi⟩
  · rw [if_neg h0]
    rcases (h.1 i _ (eg_get hi)).2 with q | ⟨x, y, q1, q2, q3⟩
    · exact absurd q h0
    · rw [ha] at q1
      cases q1
      refine ⟨b, y, rfl, q2, by simp only; omega, ?_⟩
      have := wf_dep hw i _ (eg_get hi)
      simp only
      omega
theorem inR_ok {x : Int} (h : inR x = true) : -2147483648 ≤ x ∧ x ≤ 2147483647 := by
  unfold inR at h
  rw [Bool.and_eq_true, decide_eq_true_eq, decide_eq_true_eq] at h
  exact h
theorem o9 (hw : wfB α = true) (I : Inv X rw Z0 σ0 vs Z ρ α lv st σ) (h : ast X (9, nx, x, y, ts) α k = true) : Nx X rw Z0 σ0 vs (9, nx, x, y, ts) lv st σ k := by
  have h : (match alk α.2.1 x.toNat with
    | some s => ((eg α s).1.1 == 0 && inR y) && k nx (α.1 ++ [ainc α s y], ast1 α x.toNat α.1.length, α.2.2)
    | none => false) = true := h
  split at h
  · rename_i s hs
    obtain ⟨h1, h2⟩ := kN h
    simp only [Bool.and_eq_true, beq_iff_eq] at h1
    obtain ⟨t0, r1⟩ := h1
    have r1 := inR_ok r1
    obtain ⟨v, e, b1, b2, _⟩ := I.1.int t0
    have ey := n_ofInt r1.1 r1.2
    have hsl := wf_lv hw _ (alk_mem hs)
    simp only at hsl
    have hi : okA Z (sL σ) (sK σ) (ainc α s y).1 (.int (v + Int32.ofInt y)) ∧ ¬ (ainc α s y).1.1 = 4 ∧ ((ainc α s y).2.1 = 0 ∨ ∃ x' y' : Int32, Value.int (v + Int32.ofInt y) = .int x' ∧ ρ ((ainc α s y).2.1 - 1) = .int y' ∧ x'.toInt = y'.toInt + (ainc α s y).2.2 ∧ (ainc α s y).2.1 - 1 < α.1.length) := by
      unfold ainc
      split
      · rename_i hr
        obtain ⟨r2, r3⟩ := kN hr
        have r2 := inR_ok r2
        have r3 := inR_ok r3
        have ev : (v + Int32.ofInt y).toInt = v.toInt + y := by rw [n_add (by omega) (by omega), ey]
        exact ⟨okA.mkI (by omega) (by omega), aI_ne _ _, adep_ok I.1 hw hsl e ev⟩
      · exact ⟨okA.any _, by decide, Or.inl rfl⟩
    have J := I.push hw (e := ainc α s y) (v := .int (v + Int32.ofInt y)) hi.1 hi.2.1 hi.2.2 (wf_st hw)
    refine ⟨nx, pst1 lv x.toNat (.int (v + Int32.ofInt y)), st, σ, _, ru ρ α.1.length (.int (v + Int32.ofInt y)), Z, ?_, h2, ?_⟩
    · show f_iinc _ _ _ _ = _
      unfold f_iinc
      simp only
      rw [I.1.lk hs, e]
    · refine ⟨⟨J.1.1, ?_, ?_, J.1.2.2.2.1, J.1.2.2.2.2.1, J.1.2.2.2.2.2⟩, J.2.1, J.2.2.1, J.2.2.2⟩
      · unfold pst1 ast1
        show _ :: _ = (_ :: _)
        rw [I.1.2.1]
        congr 1
        · simp only [ru_self]
        · rw [List.filter_map]
          have e1 : List.filter ((fun q : Nat × Value => !(q.1 == x.toNat) && !(q.1 + 1 == x.toNat && q.2.category == 2)) ∘ fun q => (q.1, ρ q.2)) α.2.1 = List.filter (fun q => !(q.1 == x.toNat) && !(q.1 + 1 == x.toNat && ((eg α q.2).1.1 == 1))) α.2.1 := by
            apply List.filter_congr
            intro q hq
            have hc := I.1.cat (wf_lv hw q hq)
            simp only [Function.comp]
            rw [hc]
            by_cases ht : (eg α q.2).1.1 = 1
            · simp [ht]
            · have hb : ((eg α q.2).1.1 == 1) = false := beq_eq_false_iff_ne.mpr ht
              simp [ht, hb]
          rw [e1]
          apply List.map_congr_left
          intro q hq
          rw [ru_ne _ (by have := wf_lv hw q (List.mem_filter.mp hq).1; omega)]
      · show st = α.2.2.1.map _
        rw [map_ru (wf_st hw)]
        exact I.1.2.2.1
  · cases h
end OPS
