section RT
variable {X : CT} {rw : Nat → Prop} {Z0 : Nat → Prop} {σ0 : ps} {vs : List Value} {Z : Nat → Prop} {ρ : Nat → Value} {α : AS} {lv : LV} {st : List Value} {σ : ps}
/-- a raw thing whose fields are all of their types is sealed -/
theorem seal1 (I : Inv X rw Z0 σ0 vs Z ρ α lv st σ) (s : Nat) : ∃ Z', Inv X rw Z0 σ0 vs Z' ρ (sealOne α s) lv st σ := by
  unfold sealOne
  split
  · rename_i hc
    obtain ⟨t4, hall⟩ := hc
    rw [List.all_eq_true] at hall
    have hsl := (I.1.ok (i := s) (by omega)).2.2
    obtain ⟨b, eb, hbL, hnz, hbK⟩ := (I.1.ok (i := s) (by omega)).1.w t4
    have hZ : ∀ a, Z a → a ∈ sL σ ∧ (Z a ∨ a = b) := fun a ha => ⟨(I.1.2.2.2.2.2.1 a ha).1, Or.inl ha⟩
    have hmono : ∀ (t : AV) (v : Value), okA Z (sL σ) (sK σ) t v → (t.1 = 4 → ¬ v = .ref b) → okA (fun a => Z a ∨ a = b) (sL σ) (sK σ) t v := by
      intro t v h hn
      refine h.mono hZ (fun _ _ => rfl) (fun _ h => h) (fun t4 c ec hz => ?_)
      rcases hz with hz | hz
      · obtain ⟨c', ec', _, nz, _⟩ := h.w t4
        rw [ec] at ec'
        cases ec'
        exact nz hz
      · subst hz
        exact hn t4 ec
    have key : ∀ (j : Nat) (e' : AE), (α.1.set s (aRef (akind α s), 0, 0))[j]? = some e' → (j = s ∧ e' = (aRef (akind α s), 0, 0)) ∨ (¬ j = s ∧ α.1[j]? = some e') := by
      intro j e' hj
      by_cases hji : j = s
      · subst hji
        rw [List.getElem?_set_self hsl] at hj
        exact Or.inl ⟨rfl, (Option.some.inj hj).symm⟩
      · rw [List.getElem?_set_ne (Ne.symm hji)] at hj
        exact Or.inr ⟨hji, hj⟩
    refine ⟨fun a => Z a ∨ a = b, ⟨fun j e' hj => ?_, I.1.2.1, I.1.2.2.1, I.1.2.2.2.1, fun i j e1 e2 h1 h2 t1 t2 hr => ?_, fun a ha => ?_, I.1.2.2.2.2.2.2⟩, ?_, I.2.2.1, I.2.2.2.1, ?_, fun i e c hi t4' hc h0 => ?_⟩
    · rcases key j e' hj with ⟨rfl, rfl⟩ | ⟨hne, hj⟩
      · refine ⟨Or.inr (Or.inr (Or.inl ⟨rfl, b, eb, Or.inr rfl, hbK.trans ?_⟩)), Or.inl rfl⟩
        show _ = ((akind α j : Nat) : Int).toNat
        unfold akind
        omega
      · have q0 := I.1.1 j e' hj
        refine ⟨hmono _ _ q0.1 (fun t4' ec => ?_), q0.2⟩
        exact hne (I.1.2.2.2.2.1 j s e' _ hj (eg_get hsl) t4' t4 (ec.trans eb.symm))
    · have k1 : α.1[i]? = some e1 := by
        rcases key i e1 h1 with ⟨_, q⟩ | ⟨_, q⟩
        · rw [q] at t1; cases t1
        · exact q
      have k2 : α.1[j]? = some e2 := by
        rcases key j e2 h2 with ⟨_, q⟩ | ⟨_, q⟩
        · rw [q] at t2; cases t2
        · exact q
      exact I.1.2.2.2.2.1 i j e1 e2 k1 k2 t1 t2 hr
    · rcases ha with ha | ha
      · have q0 := I.1.2.2.2.2.2.1 a ha
        exact ⟨q0.1, fun j hj => hmono _ _ (q0.2 j hj) (fun t => absurd t (fty_ne _ _))⟩
      · subst ha
        refine ⟨hbL, fun j hj => ?_⟩
        rw [hbK] at hj ⊢
        have q0 := hall j (List.mem_range.mpr (by unfold akind; exact hj))
        split at q0
        · rename_i v hv
          have hcv := I.1.2.2.2.1 _ (clk_mem hv)
          have hvl : okA Z (sL σ) (sK σ) (eg α v).1 (ρ v) := by
            have h9 : ¬ (eg α v).1.1 = 9 := by
              intro h9
              unfold aLe at q0
              simp [h9] at q0
            exact (I.1.ok h9).1
          rcases hcv with ⟨t, _⟩ | ⟨a', ea, q1⟩
          · cases t
          · rw [eb] at ea
            cases ea
            rcases q1 with ⟨_, q1⟩ | ⟨t, _⟩
            · simp only [Int.toNat_natCast] at q1
              rw [q1]
              unfold akind at q0
              exact hmono _ _ (aLe_ok q0 hvl) (fun t => absurd t (fty_ne _ _))
            · cases t
        · cases q0
    · obtain ⟨r1, r2, r3, r4, r5⟩ := I.2.1
      refine ⟨r1, fun a ha => Or.inl (r2 a ha), r3, fun a ha hz => ?_, r5⟩
      rcases hz with hz | hz
      · exact r4 a ha hz
      · subst hz
        exact Or.inr (I.2.2.2.2.2 s _ _ (eg_get hsl) t4 eb ha)
    · show _ ≤ (α.1.set s (aRef (akind α s), 0, 0)).length
      rw [List.length_set]
      exact I.2.2.2.2.1
    · rcases key i e hi with ⟨_, q⟩ | ⟨_, q⟩
      · rw [q] at t4'; cases t4'
      · exact I.2.2.2.2.2 i e c q t4' hc h0
  · exact ⟨Z, I⟩
theorem seals : ∀ (n : Nat) (α : AS) (Z : Nat → Prop), Inv X rw Z0 σ0 vs Z ρ α lv st σ → ∃ Z', Inv X rw Z0 σ0 vs Z' ρ (sealAll α n) lv st σ := by
  intro n
  induction n with
  | zero => intro α Z I; exact ⟨Z, I⟩
  | succ n ih =>
    intro α Z I
    obtain ⟨Z', I'⟩ := seal1 I n
    exact ih _ _ I'
theorem sealAll_st : ∀ (n : Nat) (α : AS), (sealAll α n).2 = α.2 := by
  intro n
  induction n with
  | zero => intro α; rfl
  | succ n ih =>
    intro α
    unfold sealAll
    rw [ih]
    unfold sealOne
    split <;> rfl
/-- the end of a method -/
theorem aret_ok {q : PI} (hw : wfB α = true) (hlen : vs.length = (cEnv X).length) (I : Inv X (rwOf X vs) Z0 σ0 vs Z ρ α lv st σ) (h : aret X q α = true) : ∃ r, pret (rt X.1) q st = some r ∧ Post X Z0 σ0 vs r σ := by
  unfold aret at h
  obtain ⟨h1, h2⟩ := kN h
  obtain ⟨h3, h4⟩ := kN h2
  rw [List.any_eq_true] at h4
  obtain ⟨alt, halt, h4⟩ := h4
  obtain ⟨Z', J⟩ := seals α.1.length α Z I
  have est : (sealAll α α.1.length).2.2.1 = α.2.2.1 := by rw [sealAll_st]
  generalize sealAll α α.1.length = β at h4 J est
  have hst := I.1.2.2.1
  unfold altRet at h4
  simp only [Bool.and_eq_true] at h4
  obtain ⟨h5, h6, h7⟩ := h4
  have hvs : ∀ (i : Nat) (v : Value), vs[i]? = some v → ρ i = v := J.2.2.2.1
  have hrange : ∀ s ∈ List.range (cEnv X).length, s < β.1.length := fun s hs => by
    have := List.mem_range.mp hs
    have := J.2.2.2.2.1
    omega
  obtain ⟨hl5, ho5⟩ := asle_ok J.1 hrange h5
  rw [List.length_range] at hl5
  have getR : ∀ (i : Nat) (v : Value), vs[i]? = some v → ((List.range (cEnv X).length).map ρ)[i]? = some v := by
    intro i v hv
    have hi := (List.getElem?_eq_some_iff.mp hv).1
    rw [List.getElem?_map, List.getElem?_range (by omega)]
    rw [← hvs i v hv]
    rfl
  have hvi : ∀ (i : Nat), i < (cEnv X).length → vs[i]? = some (ρ i) := by
    intro i hi
    have : vs[i]? = some vs[i] := List.getElem?_eq_getElem (by omega)
    rw [this, hvs i _ this]
  -- what is given back
  have hret : ∃ r, pret (rt X.1) q st = some r ∧ retOK Z' σ alt.2.1 r := by
    obtain ⟨op, nx, x, y, ts⟩ := q
    unfold aretT at h1
    split at h1
    · rename_i e1
      simp only at e1
      subst e1
      split at h1
      · rename_i hs
        rw [hs] at h6 hst
        refine ⟨none, ?_, ?_⟩
        · unfold pret
          rw [hst]
          simp only [List.map_nil]
          rw [if_pos h1]
        · split at h6
          · rename_i e2 _; exact Or.inl ⟨e2, rfl⟩
          · rename_i e2; cases e2
          · cases h6
      · cases h1
    · rename_i e1
      simp only at e1
      subst e1
      split at h1
      · rename_i s hs
        rw [hs] at h6 hst
        obtain ⟨t0, ht⟩ := kN h1
        rw [beq_iff_eq] at t0
        obtain ⟨v, ev, v1, v2, _⟩ := I.1.int t0
        refine ⟨some (.int v), ?_, ?_⟩
        · unfold pret
          rw [hst]
          simp only [List.map_cons, List.map_nil, ev]
          rw [if_pos]
          unfold pnarO
          split at ht
          · rename_i e2
            rw [e2]
            simp only
            show (v == v) = true
            rw [beq_iff_eq]
          · rename_i e2
            rw [e2]
            simp only
            rw [Bool.and_eq_true, decide_eq_true_eq, decide_eq_true_eq] at ht
            show ((v &&& 1) == v) = true
            rw [beq_iff_eq]
            by_cases h0 : v.toInt = 0
            · have : v = 0 := Int32.toInt_inj.mp (by rw [h0]; rfl)
              subst this
              rfl
            · have : v = 1 := Int32.toInt_inj.mp (by rw [show v.toInt = 1 by omega]; rfl)
              subst this
              rfl
          · cases ht
        · split at h6
          · rename_i _ e2; cases e2
          · rename_i t s' e2 e3
            cases e3
            have h9 : ¬ (eg β s).1.1 = 9 := by
              intro h9
              unfold aLe at h6
              simp [h9] at h6
            have q1 := (J.1.ok h9).1
            rw [ev] at q1
            exact Or.inr ⟨t, _, e2, rfl, aLe_ok h6 q1⟩
          · cases h6
      · cases h1
    · rename_i e1
      simp only at e1
      subst e1
      split at h1
      · rename_i s hs
        rw [hs] at h6 hst
        obtain ⟨t0, ht⟩ := kN h1
        rw [beq_iff_eq] at t0
        obtain ⟨v, ev, _⟩ := I.1.long t0
        refine ⟨some (.long v), ?_, ?_⟩
        · unfold pret
          rw [hst]
          simp only [List.map_cons, List.map_nil, ev]
          rw [if_pos ht]
        · split at h6
          · rename_i _ e2; cases e2
          · rename_i t s' e2 e3
            cases e3
            have h9 : ¬ (eg β s).1.1 = 9 := by
              intro h9
              unfold aLe at h6
              simp [h9] at h6
            have q1 := (J.1.ok h9).1
            rw [ev] at q1
            exact Or.inr ⟨t, _, e2, rfl, aLe_ok h6 q1⟩
          · cases h6
      · cases h1
    · rename_i e1
      simp only at e1
      subst e1
      split at h1
      · rename_i s hs
        rw [hs] at h6 hst
        obtain ⟨t0, ht⟩ := kN h1
        have hr := (I.1.ok (isRefT_ne t0)).1.ref t0
        refine ⟨some (ρ s), ?_, ?_⟩
        · unfold pret
          rw [hst]
          simp only [List.map_cons, List.map_nil]
          rcases hr with e | ⟨b, e⟩
          · rw [e]; simp only; rw [if_pos ht]
          · rw [e]; simp only; rw [if_pos ht]
        · split at h6
          · rename_i _ e2; cases e2
          · rename_i t s' e2 e3
            cases e3
            have h9 : ¬ (eg β s).1.1 = 9 := by
              intro h9
              unfold aLe at h6
              simp [h9] at h6
            exact Or.inr ⟨t, _, e2, rfl, aLe_ok h6 (J.1.ok h9).1⟩
          · cases h6
      · cases h1
    · cases h1
  obtain ⟨r, hr1, hr2⟩ := hret
  refine ⟨r, hr1, Z', J.1.2.2.2.2.2.1, J.1.2.2.2.2.2.2, J.2.1, ?_, alt, halt, by omega, fun i t v ht hv => ho5 i t v ht (getR i v hv), hr2, ?_⟩
  · obtain ⟨z1, z2, z3⟩ := I.2.2.1
    refine ⟨fun hx => ?_, z2, z3⟩
    rw [if_pos hx, Bool.and_eq_true, decide_eq_true_eq, decide_eq_true_eq] at h3
    have := z1 hx
    omega
  · intro p hp
    have q0 := List.all_eq_true.mp h7 p hp
    obtain ⟨o, j, b, lo, hi⟩ := p
    simp only at q0 ⊢
    split at q0
    · rename_i v hv
      simp only [Bool.and_eq_true, beq_iff_eq, decide_eq_true_eq] at q0
      obtain ⟨t0, hj, ho, q1⟩ := q0
      obtain ⟨x, ex, x1, x2, _⟩ := J.1.int t0
      have hc := J.1.2.2.2.1 _ (clk_mem hv)
      rcases hc with ⟨t, _⟩ | ⟨a, ea, hc⟩
      · cases t
      rcases hc with ⟨_, hc⟩ | ⟨t, _⟩
      · simp only at ea hc
        refine ⟨hj, a, x, by rw [hvi o ho, ea], by rw [hc, ex], fun hb => ?_, fun hb => ?_⟩
        · rw [if_pos hb, Bool.and_eq_true, decide_eq_true_eq, decide_eq_true_eq] at q1
          omega
        · rw [if_neg hb] at q1
          simp only [Bool.and_eq_true, Bool.or_eq_true, decide_eq_true_eq] at q1
          obtain ⟨hbl, q1⟩ := q1
          have hbl : b ≤ (cEnv X).length := hbl
          rcases q1 with ⟨e, l1, l2⟩ | ⟨e, l1, l2⟩
          · refine ⟨x, ?_, by omega, by omega⟩
            rw [show b - 1 = v by omega, hvi v (by omega), ex]
          · rcases (J.1.ok (i := v) (by omega)).2.1 with d | ⟨u, w, d1, d2, d3⟩
            · omega
            · rw [ex] at d1
              cases d1
              refine ⟨w, ?_, by omega, by omega⟩
              rw [e] at d2
              rw [hvi (b - 1) (by omega), d2]
      · cases t
    · cases q0
end RT
