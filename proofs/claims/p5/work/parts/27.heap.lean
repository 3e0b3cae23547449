def keyOK (ρ : Nat → Value) (t : Nat) (x : Int) (j : Nat) : Prop := (t = 0 ∧ x.toNat = j) ∨ (t = 1 ∧ ∃ w : Int32, ρ x.toNat = .int w ∧ w.toNatClampNeg = j)
theorem ety_w : ∀ k, wrow k = true → ety k = aAny := by
  intro k h
  unfold wrow at h
  simp only [Bool.or_eq_true, beq_iff_eq] at h
  rcases h with h | h
  all_goals first | (subst h; rfl) | skip
  all_goals (rcases h with h | h)
  all_goals first | (subst h; rfl) | skip
  all_goals (rcases h with h | h)
  all_goals first | (subst h; rfl) | skip
  all_goals (rcases h with h | h)
  all_goals first | (subst h; rfl) | skip
  all_goals (rcases h with h | h)
  all_goals first | (subst h; rfl) | skip
  all_goals (rcases h with h | h)
  all_goals first | (subst h; rfl) | skip
  all_goals (rcases h with h | h)
  all_goals first | (subst h; rfl) | skip
  all_goals (rcases h with h | h)
  all_goals first | (subst h; rfl) | skip
  all_goals (rcases h with h | h)
  all_goals first | (subst h; rfl) | skip
  all_goals (rcases h with h | h)
  all_goals first | (subst h; rfl) | skip
theorem getD_all {l : List AV} {p : AV → Bool} (h : l.all p = true) (d : AV) (hd : p d = true) (i : Nat) : p (l.getD i d) = true := by
  rw [List.getD_eq_getElem?_getD]
  cases hi : l[i]? with
  | none => exact hd
  | some t => exact List.all_eq_true.mp h t (List.mem_of_getElem? hi)
theorem ety_ne (k : Nat) : ¬ (ety k).1 = 4 := by
  unfold ety
  split
  · have := getD_all (l := et1) (p := fun t => decide (¬ t.1 = 4)) (by decide +kernel) aAny (by decide) (k - 20)
    exact of_decide_eq_true this
  · have := getD_all (l := et2) (p := fun t => decide (¬ t.1 = 4)) (by decide +kernel) aAny (by decide) (k - 64)
    exact of_decide_eq_true this
theorem ftab_ne : ∀ k, k < 14 → (ftab k).all (fun t => decide (¬ t.1 = 4)) = true := by decide +kernel
theorem fty_ne (k j : Nat) : ¬ (fty k j).1 = 4 := by
  unfold fty
  split
  · rename_i hk
    exact of_decide_eq_true (getD_all (p := fun t => decide (¬ t.1 = 4)) (ftab_ne k hk) aAny (by decide) j)
  · split
    · exact aI_ne _ _
    · split
      · exact aI_ne _ _
      · exact ety_ne k
theorem aelt_ok {Z : Nat → Prop} {L : List Nat} {K : Nat → Nat} {k j : Nat} {i : AV} {v : Value} (hk : 14 ≤ k) (h : okA Z L K (fty k j) v) (h1 : i.2.1 ≤ (j : Int)) (h2 : (j : Int) ≤ i.2.2.1) (h3 : (i.2.2.2.1 : Int) ≤ (j : Int) % 16) (h4 : (j : Int) % 16 ≤ (i.2.2.2.2 : Int)) : okA Z L K (aelt k i) v := by
  unfold aelt
  unfold fty at h
  rw [if_neg (by omega)] at h
  by_cases hw : wrow k = true
  · rw [if_pos hw]
    rw [hw] at h
    have any : okA Z L K (ety k) v := by
      rw [ety_w k hw]
      by_cases hj : (j % 16 == 0) = true
      · rw [hj, if_pos (by rfl)] at h
        exact aLe_ok (by decide) h
      · rw [Bool.true_and, if_neg hj] at h
        by_cases hz : ((k == 92) && (j == 0)) = true
        · rw [if_pos hz] at h
          exact aLe_ok (by decide) h
        · rw [if_neg hz, ety_w k hw] at h
          exact h
    split
    · have hj : (j % 16 == 0) = true := by rw [beq_iff_eq]; omega
      rw [hj] at h
      exact h
    · exact any
  · rw [if_neg hw]
    have hw' : wrow k = false := by simpa using hw
    rw [hw', Bool.false_and, if_neg (by decide)] at h
    by_cases hz : k = 92
    · rw [if_pos hz]
      subst hz
      by_cases hj : j = 0
      · subst hj
        rw [if_pos (by rfl)] at h
        split
        · exact h
        · exact aLe_ok (by decide) h
      · rw [if_neg (by simp [hj])] at h
        split
        · omega
        · exact h
    · rw [if_neg hz]
      rw [if_neg (by simp [hz])] at h
      exact h
theorem asto_ok {Z : Nat → Prop} {L : List Nat} {K : Nat → Nat} {k j : Nat} {i t : AV} {v : Value} (hk : 14 ≤ k) (ha : asto k i t = true) (h : okA Z L K t v) (h1 : i.2.1 ≤ (j : Int)) (h3 : (i.2.2.2.1 : Int) ≤ (j : Int) % 16) : okA Z L K (fty k j) v := by
  unfold asto at ha
  simp only [Bool.and_eq_true, Bool.or_eq_true, Bool.not_eq_true', Bool.and_eq_false_iff, decide_eq_false_iff_not] at ha
  obtain ⟨a1, a2, a3⟩ := ha
  unfold fty
  rw [if_neg (by omega)]
  split
  · rename_i hw
    rw [Bool.and_eq_true, beq_iff_eq] at hw
    rcases a2 with (a2 | a2) | a2
    · rw [hw.1] at a2; cases a2
    · exact absurd a2 (by omega)
    · exact aLe_ok a2 h
  · split
    · rename_i hz
      rw [Bool.and_eq_true, beq_iff_eq, beq_iff_eq] at hz
      rcases a3 with (a3 | a3) | a3
      · rw [hz.1] at a3; cases a3
      · exact absurd a3 (by omega)
      · exact aLe_ok a3 h
    · exact aLe_ok a1 h
section HP
variable {X : CT} {rw : Nat → Prop} {Z0 : Nat → Prop} {σ0 : ps} {vs : List Value} {Z : Nat → Prop} {ρ : Nat → Value} {α : AS} {lv : LV} {st : List Value} {σ : ps} {k : Nat → AS → Bool} {nx : Nat} {q1 q2 : Int} {ts : List Nat}
theorem apart_ok (h : G Z ρ α lv st σ) {o o' b b' : Nat} (ha : apart α o o' = true) (e : ρ o = .ref b) (e' : ρ o' = .ref b') : ¬ b' = b := by
  unfold apart at ha
  simp only [Bool.and_eq_true, Bool.or_eq_true, decide_eq_true_eq, beq_iff_eq] at ha
  obtain ⟨⟨t1, t2⟩, ha⟩ := ha
  obtain ⟨x, ex, hx1, hx2, hx3, hx4⟩ := h.obj t1
  rw [e] at ex
  cases ex
  obtain ⟨x', ex', hx1', hx2', hx3', hx4'⟩ := h.obj t2
  rw [e'] at ex'
  cases ex'
  intro hb
  subst hb
  unfold akind at hx2 hx2'
  rcases ha with ha | ⟨ha, hne⟩
  · exact ha (hx2.symm.trans hx2')
  · unfold oTag at t1 t2
    simp only [Bool.or_eq_true, beq_iff_eq] at t1 t2
    have l1 := (h.ok (i := o) (by omega)).2.2
    have l2 := (h.ok (i := o') (by omega)).2.2
    rcases t1 with t1 | t1 <;> rcases t2 with t2 | t2
    · omega
    · exact hx4' t2 (hx3 t1)
    · exact hx4 t1 (hx3' t2)
    · exact hne (h.2.2.2.2.1 o o' _ _ (eg_get l1) (eg_get l2) t1 t2 (e.trans e'.symm))
theorem rng_ok (h : G Z ρ α lv st σ) {t : Nat} {x : Int} {j : Nat} (hk : keyOK ρ t x j) (h0 : 0 ≤ (rngI α t x).1) : (rngI α t x).1 ≤ (j : Int) ∧ (j : Int) ≤ (rngI α t x).2 := by
  unfold rngI at h0 ⊢
  rcases hk with ⟨rfl, hj⟩ | ⟨rfl, w, hw, hj⟩
  · rw [if_pos rfl] at h0 ⊢
    simp only at h0 ⊢
    omega
  · rw [if_neg (by decide)] at h0 ⊢
    by_cases ht : (eg α x.toNat).1.1 = 0
    · rw [if_pos ht] at h0 ⊢
      obtain ⟨w', ew, b1, b2, _⟩ := h.int ht
      rw [hw] at ew
      cases ew
      simp only at h0 ⊢
      have := n_clamp (x := w) (by omega)
      omega
    · rw [if_neg ht] at h0
      simp only at h0
      omega
theorem iapart_ok (h : G Z ρ α lv st σ) {t t' : Nat} {x x' : Int} {j j' : Nat} (ha : iapart α t x t' x' = true) (hk : keyOK ρ t x j) (hk' : keyOK ρ t' x' j') : ¬ j' = j := by
  unfold iapart at ha
  simp only [Bool.and_eq_true, Bool.or_eq_true, decide_eq_true_eq] at ha
  have a1 := rng_ok h hk ha.1.1
  have a2 := rng_ok h hk' ha.1.2
  rcases ha.2 with q | q <;> omega
theorem ch_key {c : CH} {a : Nat} (h : chOK ρ σ c) (h2 : ¬ c.2.1 = 2) (ha : ρ c.1 = .ref a) : ∃ j, keyOK ρ c.2.1 c.2.2.1 j ∧ sV σ a j = ρ c.2.2.2 := by
  rcases h with ⟨t, _⟩ | ⟨b, e, q⟩
  · exact absurd t h2
  · rw [ha] at e
    cases e
    rcases q with ⟨t, q⟩ | ⟨t, w, ew, q⟩
    · exact ⟨_, Or.inl ⟨t, rfl⟩, q⟩
    · exact ⟨_, Or.inr ⟨t, w, ew, rfl⟩, q⟩
theorem key_uni {t : Nat} {x : Int} {j j' : Nat} (h : keyOK ρ t x j) (h' : keyOK ρ t x j') : j = j' := by
  rcases h with ⟨t1, e⟩ | ⟨t1, w, ew, e⟩ <;> rcases h' with ⟨t2, e'⟩ | ⟨t2, w', ew', e'⟩
  · omega
  · omega
  · omega
  · rw [ew] at ew'
    cases ew'
    omega
/-- a place of the heap is written -/
theorem Inv.wr (I : Inv X rw Z0 σ0 vs Z ρ α lv st σ) {o t v b j : Nat} {x : Int} (eo : ρ o = .ref b) (hb : b ∈ sL σ) (hk : keyOK ρ t x j) (hm : inM (cMod X) (sK σ b) j = true) (hz : Z b → j < szK (sK σ b) → okA Z (sL σ) (sK σ) (fty (sK σ b) j) (ρ v)) (hfl : ¬ cFl X = 0 → ¬ sK σ b = 26) (hui : ¬ cUi X = 0 → ¬ sK σ b = 97 ∧ ¬ sK σ b = 101) (r : List Nat) :
    Inv X rw Z0 σ0 vs Z ρ (asch α (cput α o t x v) r) lv (r.map ρ) (sPut σ b j (ρ v)) := by
  have hself : sV (sPut σ b j (ρ v)) b j = ρ v := by rw [sPut_self]; simp
  have hoth : ∀ a i, ¬ (a = b ∧ i = j) → sV (sPut σ b j (ρ v)) a i = sV σ a i := by
    intro a i hne
    by_cases ha : a = b
    · subst ha
      rw [sPut_self]
      simp only
      rw [if_neg (fun e => hne ⟨rfl, e⟩)]
    · rw [sPut_ne j (ρ v) ha]
  have hkind : (t = 0 ∨ t = 1) := by rcases hk with ⟨h, _⟩ | ⟨h, _⟩ <;> omega
  refine ⟨⟨I.1.1, I.1.2.1, rfl, ?_, I.1.2.2.2.2.1, ?_, I.1.2.2.2.2.2.2⟩, ?_, ?_, I.2.2.2⟩
  · intro c hc
    rcases List.mem_cons.mp hc with e | hc
    · subst e
      refine Or.inr ⟨b, eo, ?_⟩
      rcases hk with ⟨h0, hj⟩ | ⟨h1, w, hw, hj⟩
      · refine Or.inl ⟨h0, ?_⟩
        show sV (sPut σ b j (ρ v)) b x.toNat = ρ v
        rw [hj]; exact hself
      · refine Or.inr ⟨h1, w, hw, ?_⟩
        show sV (sPut σ b j (ρ v)) b w.toNatClampNeg = ρ v
        rw [hj]; exact hself
    · obtain ⟨hc1, hc2⟩ := List.mem_filter.mp hc
      have q := I.1.2.2.2.1 c hc1
      unfold ckeep at hc2
      simp only [Bool.or_eq_true, decide_eq_true_eq] at hc2
      rcases q with q | ⟨a, ea, q⟩
      · exact Or.inl q
      · have hne : ∀ i, keyOK ρ c.2.1 c.2.2.1 i → ¬ (a = b ∧ i = j) := by
          intro i hi hab
          rcases hc2 with h2 | h2 | h2
          · rcases hi with ⟨h, _⟩ | ⟨h, _⟩ <;> omega
          · exact apart_ok I.1 h2 eo ea hab.1
          · exact iapart_ok I.1 h2 hk hi hab.2
        refine Or.inr ⟨a, ea, ?_⟩
        rcases q with ⟨t0, q⟩ | ⟨t1, w, ew, q⟩
        · refine Or.inl ⟨t0, ?_⟩
          rw [hoth _ _ (hne _ (Or.inl ⟨t0, rfl⟩))]
          exact q
        · refine Or.inr ⟨t1, w, ew, ?_⟩
          rw [hoth _ _ (hne _ (Or.inr ⟨t1, w, ew, rfl⟩))]
          exact q
  · intro a ha
    have q := I.1.2.2.2.2.2.1 a ha
    refine ⟨q.1, fun i hi => ?_⟩
    by_cases hab : a = b ∧ i = j
    · obtain ⟨rfl, rfl⟩ := hab
      rw [hself]
      exact hz ha hi
    · rw [hoth _ _ hab]
      exact q.2 i hi
  · obtain ⟨r1, r2, r3, r4, r5⟩ := I.2.1
    refine ⟨fun a ha => ?_, r2, r3, r4, r5⟩
    obtain ⟨s1, s2, s3⟩ := r1 a ha
    refine ⟨s1, s2, fun i hi => ?_⟩
    rw [hoth, s3 i hi]
    rintro ⟨rfl, rfl⟩
    rw [s2, hi] at hm
    cases hm
  · obtain ⟨z1, z2, z3⟩ := I.2.2.1
    exact ⟨z1, fun h => (z2 h).tr (RB.put (hfl h)), fun h => (z3 h).put (hui h).1 (hui h).2⟩
/-- a place of the heap is read: a new symbol, and where it was read -/
theorem Inv.rd (hw : wfB α = true) (I : Inv X rw Z0 σ0 vs Z ρ α lv st σ) {o t b j : Nat} {x : Int} {e : AV} (eo : ρ o = .ref b) (ho : o < α.1.length) (hx : t = 1 → x.toNat < α.1.length) (hk : keyOK ρ t x j) (hv : okA Z (sL σ) (sK σ) e (sV σ b j)) (h4 : ¬ e.1 = 4) {r : List Nat} (hr : ∀ q ∈ r, q < α.1.length) :
    Inv X rw Z0 σ0 vs Z (ru ρ α.1.length (sV σ b j)) (anewc α (e, 0, 0) r o t x) lv (sV σ b j :: r.map ρ) σ := by
  have J := I.push hw (e := (e, 0, 0)) (v := sV σ b j) hv h4 (Or.inl rfl) hr
  refine ⟨⟨J.1.1, J.1.2.1, J.1.2.2.1, fun c hc => ?_, J.1.2.2.2.2.1, J.1.2.2.2.2.2⟩, J.2.1, J.2.2.1, J.2.2.2⟩
  rcases List.mem_cons.mp hc with e | hc
  · subst e
    refine Or.inr ⟨b, ?_, ?_⟩
    · show ru ρ α.1.length _ o = _
      rw [ru_ne _ (by omega)]; exact eo
    · rcases hk with ⟨h0, hj⟩ | ⟨h1, w, ew, hj⟩
      · refine Or.inl ⟨h0, ?_⟩
        show sV σ b x.toNat = ru ρ α.1.length _ α.1.length
        rw [ru_self, hj]
      · refine Or.inr ⟨h1, w, ?_, ?_⟩
        · show ru ρ α.1.length _ x.toNat = _
          rw [ru_ne _ (by have := hx h1; omega)]; exact ew
        · show sV σ b w.toNatClampNeg = ru ρ α.1.length _ α.1.length
          rw [ru_self, hj]
  · exact J.1.2.2.2.1 c hc
theorem hit (I : Inv X rw Z0 σ0 vs Z ρ α lv st σ) {o t b j s : Nat} {x : Int} (eo : ρ o = .ref b) (hk : keyOK ρ t x j) (hc : clk α.2.2.2.1 o t x = some s) : sV σ b j = ρ s := by
  have q := I.1.2.2.2.1 _ (clk_mem hc)
  have h2 : ¬ t = 2 := by rcases hk with ⟨h, _⟩ | ⟨h, _⟩ <;> omega
  obtain ⟨j', h1, h3⟩ := ch_key q h2 eo
  rw [key_uni hk h1]
  exact h3
theorem pis_mk {b k : Nat} (h1 : b ∈ sL σ) (h2 : sK σ b = k) : pis σ b k = true := by
  unfold pis
  rw [Bool.and_eq_true, decide_eq_true_eq, beq_iff_eq]
  exact ⟨h1, h2⟩
theorem o22 (hw : wfB α = true) (I : Inv X rw Z0 σ0 vs Z ρ α lv st σ) (h : ast X (22, nx, q1, q2, ts) α k = true) : Nx X rw Z0 σ0 vs (22, nx, q1, q2, ts) lv st σ k := by
  have h : (match α.2.2.1 with
    | x :: r => agetf α q1.toNat q2.toNat x r (k nx)
    | _ => false) = true := h
  split at h
  · rename_i x r hs
    unfold agetf at h
    obtain ⟨h1, h2⟩ := kN h
    rw [Bool.and_eq_true, decide_eq_true_eq] at h1
    obtain ⟨b, eb, hb1, hb2, hb3, _⟩ := I.1.obj h1.1
    have hst := I.1.stk hs
    rw [List.map_cons, eb] at hst
    have hp : pst (22, nx, q1, q2, ts) lv st σ = some (nx, lv, sV σ b q2.toNat :: r.map ρ, σ) := by
      show f_get _ _ _ _ = _
      unfold f_get
      rw [hst]
      simp only
      rw [if_pos (pis_mk hb1 (hb2.trans h1.2))]
    have hk : keyOK ρ 0 (q2.toNat : Int) q2.toNat := Or.inl ⟨rfl, by omega⟩
    split at h2
    · rename_i s hc
      refine ⟨nx, lv, _, σ, _, ρ, Z, hp, h2, ?_⟩
      have := I.st (s :: r)
      rw [List.map_cons, ← hit I eb hk hc] at this
      exact this
    · obtain ⟨h3, h4⟩ := kN h2
      simp only [Bool.and_eq_true, beq_iff_eq, decide_eq_true_eq] at h3
      have hl := (I.1.ok (i := x) (by omega)).2.2
      have ht := (I.1.2.2.2.2.2.1 b (hb3 h3.1)).2 q2.toNat (by unfold szK; rw [hb2, h1.2, if_pos h3.2.2]; exact h3.2.1)
      rw [hb2, h1.2] at ht
      exact ⟨nx, lv, _, σ, _, _, Z, hp, h4, I.rd hw eb hl (fun h => by cases h) hk ht (fty_ne _ _) (wf_tl1 hw hs)⟩
  · cases h
theorem cmpT_ok {L : List Nat} {K : Nat → Nat} {ty : FieldType} {t : AV} {v : Value} (h : cmpT ty t = true) (hv : okA Z L K t v) : pfit ty v = true := by
  cases ty with
  | boolean =>
    unfold cmpT at h
    simp only [Bool.and_eq_true, beq_iff_eq, decide_eq_true_eq] at h
    obtain ⟨x, e, b1, b2, _⟩ := hv.i h.1
    subst e
    show fits .boolean (.int x) = true
    unfold fits
    rw [Bool.or_eq_true, beq_iff_eq, beq_iff_eq]
    by_cases h0 : x.toInt = 0
    · exact Or.inl (Int32.toInt_inj.mp (by rw [h0]; rfl))
    · exact Or.inr (Int32.toInt_inj.mp (by rw [show x.toInt = 1 by omega]; rfl))
  | int =>
    unfold cmpT at h
    rw [beq_iff_eq] at h
    obtain ⟨x, e, _⟩ := hv.i h
    subst e
    rfl
  | long =>
    unfold cmpT at h
    rw [beq_iff_eq] at h
    obtain ⟨x, e, _⟩ := hv.l h
    subst e
    rfl
  | object n =>
    rcases hv.ref h with e | ⟨b, e⟩ <;> subst e <;> rfl
  | array n =>
    rcases hv.ref h with e | ⟨b, e⟩ <;> subst e <;> rfl
  | _ => cases h
theorem o23 (hw : wfB α = true) (I : Inv X rw Z0 σ0 vs Z ρ α lv st σ) (h : ast X (23, nx, q1, q2, ts) α k = true) : Nx X rw Z0 σ0 vs (23, nx, q1, q2, ts) lv st σ k := by
  have h : (match α.2.2.1 with
    | v :: x :: r => aputf X α q1.toNat q2.toNat v x r (k nx)
    | _ => false) = true := h
  split at h
  · rename_i v x r hs
    unfold aputf at h
    simp only [Bool.and_eq_true, Bool.or_eq_true, beq_iff_eq, decide_eq_true_eq] at h
    obtain ⟨⟨⟨h1, h2⟩, h3, h4, h5, h6⟩, h7, h8⟩ := h
    obtain ⟨b, eb, hb1, hb2, hb3, hb4⟩ := I.1.obj h1
    have hv : okA Z (sL σ) (sK σ) (eg α v).1 (ρ v) := by
      by_cases h9 : (eg α v).1.1 = 9
      · exfalso
        revert h3
        unfold cmpT
        rw [h9]
        split <;> simp [isRefT]
      · exact (I.1.ok h9).1
    have hst := I.1.stk hs
    rw [List.map_cons, List.map_cons, eb] at hst
    refine ⟨nx, lv, r.map ρ, sPut σ b q2.toNat (ρ v), _, ρ, Z, ?_, h8, ?_⟩
    · show f_put _ _ _ _ = _
      unfold f_put
      rw [hst]
      simp only
      rw [if_pos]
      rw [Bool.and_eq_true]
      exact ⟨pis_mk hb1 (hb2.trans h2), cmpT_ok h3 hv⟩
    · have hkb : sK σ b = q1.toNat := hb2.trans h2
      refine I.wr (o := x) eb hb1 (Or.inl ⟨rfl, by omega⟩) (by rw [hkb]; exact h4) (fun hz _ => ?_) (fun _ => by omega) (fun _ => by omega) r
      rcases h7 with h7 | h7
      · exact absurd hz (hb4 h7)
      · rw [hkb]
        exact aLe_ok h7 hv
  · cases h
theorem ikey_ok {i : Nat} {w : Int32} (h0 : (eg α i).1.1 = 0) (h1 : 0 ≤ (eg α i).1.2.1) (b1 : (eg α i).1.2.1 ≤ w.toInt) (b2 : w.toInt ≤ (eg α i).1.2.2.1) (ew : ρ i = .int w) : keyOK ρ (ikey α i).1 (ikey α i).2 w.toNatClampNeg := by
  unfold ikey
  have hc := n_clamp (x := w) (by omega)
  split
  · rename_i hq
    unfold aCst at hq
    rw [decide_eq_true_eq] at hq
    exact Or.inl ⟨rfl, by simp only; omega⟩
  · exact Or.inr ⟨rfl, w, by simpa using ew, rfl⟩
theorem aidx_ok (I : Inv X rw Z0 σ0 vs Z ρ α lv st σ) {o i : Nat} (h : aidx α o i = true) : ∃ (b : Nat) (w : Int32), ρ o = .ref b ∧ ρ i = .int w ∧ b ∈ sL σ ∧ sK σ b = akind α o ∧ 14 ≤ akind α o ∧ ((eg α o).1.1 = 2 → Z b) ∧ ((eg α o).1.1 = 4 → ¬ Z b) ∧ pin w (rk (sK σ b)).2 = true ∧ keyOK ρ (ikey α i).1 (ikey α i).2 w.toNatClampNeg ∧ w.toNatClampNeg < szK (sK σ b) ∧ (eg α i).1.2.1 ≤ (w.toNatClampNeg : Int) ∧ (w.toNatClampNeg : Int) ≤ (eg α i).1.2.2.1 ∧ ((eg α i).1.2.2.2.1 : Int) ≤ (w.toNatClampNeg : Int) % 16 ∧ (w.toNatClampNeg : Int) % 16 ≤ ((eg α i).1.2.2.2.2 : Int) ∧ o < α.1.length ∧ ((ikey α i).1 = 1 → (ikey α i).2.toNat < α.1.length) := by
  unfold aidx at h
  simp only [Bool.and_eq_true, beq_iff_eq, decide_eq_true_eq] at h
  obtain ⟨⟨h1, h2⟩, h3, h4, h5⟩ := h
  obtain ⟨b, eb, hb1, hb2, hb3, hb4⟩ := I.1.obj h1
  obtain ⟨w, ew, b1, b2, b3, b4⟩ := I.1.int h3
  have hc := n_clamp (x := w) (by omega)
  refine ⟨b, w, eb, ew, hb1, hb2, h2, hb3, hb4, n_pin (by omega) (by rw [hb2]; omega), ikey_ok h3 h4 b1 b2 ew, ?_, by omega, by omega, by omega, by omega, (I.1.ok (oTag_ne h1)).2.2, ?_⟩
  · unfold szK
    rw [hb2, if_neg (by omega)]
    omega
  · intro hk
    unfold ikey at hk ⊢
    split
    · rename_i hq
      rw [if_pos hq] at hk
      cases hk
    · simp only
      have := (I.1.ok (i := i) (by omega)).2.2
      omega
/-- an element is read -/
theorem ald (hw : wfB α = true) (I : Inv X rw Z0 σ0 vs Z ρ α lv st σ) {okc okt : Nat → Bool} {o i : Nat} {r : List Nat} {cont : AS → Bool} (hr : ∀ q ∈ r, q < α.1.length) (h9 : okt 9 = false) (h : aaldx α okc okt o i r cont = true) : ∃ (b : Nat) (w : Int32) (v : Value) (t : AV) (α' : AS) (ρ' : Nat → Value), ρ o = .ref b ∧ ρ i = .int w ∧ b ∈ sL σ ∧ 14 ≤ sK σ b ∧ okc (rk (sK σ b)).1 = true ∧ pin w (rk (sK σ b)).2 = true ∧ sV σ b w.toNatClampNeg = v ∧ okA Z (sL σ) (sK σ) t v ∧ okt t.1 = true ∧ cont α' = true ∧ Inv X rw Z0 σ0 vs Z ρ' α' lv (v :: r.map ρ) σ := by
  unfold aaldx at h
  obtain ⟨h1, h2⟩ := kN h
  rw [Bool.and_eq_true] at h1
  obtain ⟨b, w, eb, ew, hb1, hb2, h14, hb3, hb4, hpin, hk, hsz, x1, x2, x3, x4, hol, hkl⟩ := aidx_ok I h1.1
  split at h2
  · rename_i s hc
    obtain ⟨t1, t2⟩ := kN h2
    have ev := hit I eb hk hc
    have hs9 : ¬ (eg α s).1.1 = 9 := fun e => by rw [e, h9] at t1; cases t1
    refine ⟨b, w, ρ s, (eg α s).1, _, ρ, eb, ew, hb1, by omega, by rw [hb2]; exact h1.2, hpin, ev, (I.1.ok hs9).1, t1, t2, ?_⟩
    have := I.st (s :: r)
    rw [List.map_cons] at this
    exact this
  · obtain ⟨t1, t2⟩ := kN h2
    rw [Bool.and_eq_true, beq_iff_eq] at t1
    have ht := (I.1.2.2.2.2.2.1 b (hb3 t1.1)).2 _ hsz
    rw [hb2] at ht
    have hv := aelt_ok h14 ht x1 x2 x3 x4
    have hne : ¬ (aelt (akind α o) (eg α i).1).1 = 4 := by
      unfold aelt
      repeat' split
      all_goals first | exact aI_ne _ _ | exact ety_ne _
    exact ⟨b, w, _, _, _, _, eb, ew, hb1, by omega, by rw [hb2]; exact h1.2, hpin, rfl, hv, t1.2, t2, I.rd hw eb hol hkl hk hv hne hr⟩
theorem isRow_mk {b c : Nat} (h1 : b ∈ sL σ) (h2 : 14 ≤ sK σ b) (h3 : (rk (sK σ b)).1 = c) : isRow σ b c = true := by
  unfold isRow
  rw [Bool.and_eq_true, Bool.and_eq_true, decide_eq_true_eq, decide_eq_true_eq, beq_iff_eq]
  exact ⟨h1, h2, h3⟩
theorem o24 (hw : wfB α = true) (I : Inv X rw Z0 σ0 vs Z ρ α lv st σ) (h : ast X (24, nx, q1, q2, ts) α k = true) : Nx X rw Z0 σ0 vs (24, nx, q1, q2, ts) lv st σ k := by
  have h : (match α.2.2.1 with
    | i :: x :: r => aaldx α (fun c => c == 1) (fun t => t == 0) x i r (k nx)
    | _ => false) = true := h
  split at h
  · rename_i i x r hs
    obtain ⟨b, w, v, t, α', ρ', eb, ew, hb1, h14, hc, hpin, ev, hv, ht, hk, J⟩ := ald hw I (wf_tl2 hw hs) rfl h
    rw [beq_iff_eq] at hc ht
    obtain ⟨u, eu, _⟩ := hv.i ht
    have hst := I.1.stk hs
    rw [List.map_cons, List.map_cons, eb, ew] at hst
    refine ⟨nx, lv, _, σ, α', ρ', Z, ?_, hk, J⟩
    show f_iald _ _ _ _ = _
    unfold f_iald
    rw [hst]
    simp only
    rw [if_pos (by rw [Bool.and_eq_true]; exact ⟨isRow_mk hb1 h14 hc, hpin⟩), ev, eu]
  · cases h
theorem o25 (hw : wfB α = true) (I : Inv X rw Z0 σ0 vs Z ρ α lv st σ) (h : ast X (25, nx, q1, q2, ts) α k = true) : Nx X rw Z0 σ0 vs (25, nx, q1, q2, ts) lv st σ k := by
  have h : (match α.2.2.1 with
    | i :: x :: r => aaldx α bytes1 (fun t => t == 0) x i r (k nx)
    | _ => false) = true := h
  split at h
  · rename_i i x r hs
    obtain ⟨b, w, v, t, α', ρ', eb, ew, hb1, h14, hc, hpin, ev, hv, ht, hk, J⟩ := ald hw I (wf_tl2 hw hs) rfl h
    rw [beq_iff_eq] at ht
    unfold bytes1 at hc
    rw [Bool.or_eq_true, beq_iff_eq, beq_iff_eq] at hc
    obtain ⟨u, eu, _⟩ := hv.i ht
    have hst := I.1.stk hs
    rw [List.map_cons, List.map_cons, eb, ew] at hst
    refine ⟨nx, lv, _, σ, α', ρ', Z, ?_, hk, J⟩
    show f_bald _ _ _ _ = _
    unfold f_bald
    rw [hst]
    simp only
    rw [if_pos, ev, eu]
    rw [Bool.and_eq_true, Bool.or_eq_true]
    exact ⟨hc.imp (isRow_mk hb1 h14) (isRow_mk hb1 h14), hpin⟩
  · cases h
theorem o26 (hw : wfB α = true) (I : Inv X rw Z0 σ0 vs Z ρ α lv st σ) (h : ast X (26, nx, q1, q2, ts) α k = true) : Nx X rw Z0 σ0 vs (26, nx, q1, q2, ts) lv st σ k := by
  have h : (match α.2.2.1 with
    | i :: x :: r => aaldx α (fun c => c == 2) (fun t => t == 1) x i r (k nx)
    | _ => false) = true := h
  split at h
  · rename_i i x r hs
    obtain ⟨b, w, v, t, α', ρ', eb, ew, hb1, h14, hc, hpin, ev, hv, ht, hk, J⟩ := ald hw I (wf_tl2 hw hs) rfl h
    rw [beq_iff_eq] at hc ht
    obtain ⟨u, eu, _⟩ := hv.l ht
    have hst := I.1.stk hs
    rw [List.map_cons, List.map_cons, eb, ew] at hst
    refine ⟨nx, lv, _, σ, α', ρ', Z, ?_, hk, J⟩
    show f_lald _ _ _ _ = _
    unfold f_lald
    rw [hst]
    simp only
    rw [if_pos (by rw [Bool.and_eq_true]; exact ⟨isRow_mk hb1 h14 hc, hpin⟩), ev, eu]
  · cases h
theorem isRowQ_mk {b : Nat} (h1 : b ∈ sL σ) (h2 : 14 ≤ sK σ b) (h3 : rowRef (rk (sK σ b)).1 = true) : isRowQ σ b = true := by
  unfold rowRef at h3
  unfold isRowQ
  rw [Bool.and_eq_true, Bool.and_eq_true, decide_eq_true_eq, decide_eq_true_eq]
  exact ⟨h1, h2, h3⟩
theorem o27 (hw : wfB α = true) (I : Inv X rw Z0 σ0 vs Z ρ α lv st σ) (h : ast X (27, nx, q1, q2, ts) α k = true) : Nx X rw Z0 σ0 vs (27, nx, q1, q2, ts) lv st σ k := by
  have h : (match α.2.2.1 with
    | i :: x :: r => aaldx α rowRef isRefT x i r (k nx)
    | _ => false) = true := h
  split at h
  · rename_i i x r hs
    obtain ⟨b, w, v, t, α', ρ', eb, ew, hb1, h14, hc, hpin, ev, hv, ht, hk, J⟩ := ald hw I (wf_tl2 hw hs) rfl h
    have hst := I.1.stk hs
    rw [List.map_cons, List.map_cons, eb, ew] at hst
    refine ⟨nx, lv, _, σ, α', ρ', Z, ?_, hk, J⟩
    show f_aald _ _ _ _ = _
    unfold f_aald
    rw [hst]
    simp only
    rw [if_pos (by rw [Bool.and_eq_true]; exact ⟨isRowQ_mk hb1 h14 hc, hpin⟩), ev]
    rcases hv.ref ht with e | ⟨c, e⟩ <;> rw [e]
  · cases h
/-- an element is written -/
theorem ast_ (I : Inv X rw Z0 σ0 vs Z ρ α lv st σ) {okc : Nat → Bool} {v i o : Nat} {r : List Nat} {cont : AS → Bool} (hv : okA Z (sL σ) (sK σ) (eg α v).1 (ρ v)) (h : aastx X α okc v i o r cont = true) : ∃ (b : Nat) (w : Int32) (α' : AS), ρ o = .ref b ∧ ρ i = .int w ∧ b ∈ sL σ ∧ 14 ≤ sK σ b ∧ sK σ b = akind α o ∧ okc (rk (sK σ b)).1 = true ∧ pin w (rk (sK σ b)).2 = true ∧ cont α' = true ∧ Inv X rw Z0 σ0 vs Z ρ α' lv (r.map ρ) (sPut σ b w.toNatClampNeg (ρ v)) := by
  unfold aastx at h
  simp only [Bool.and_eq_true, Bool.or_eq_true, beq_iff_eq, decide_eq_true_eq, Bool.not_eq_true', beq_eq_false_iff_ne, ne_eq] at h
  obtain ⟨⟨⟨h1, h2, h3, h4⟩, h5⟩, h6, h7⟩ := h
  obtain ⟨b, w, eb, ew, hb1, hb2, h14, hb3, hb4, hpin, hk, hsz, x1, x2, x3, x4, hol, hkl⟩ := aidx_ok I h1
  refine ⟨b, w, _, eb, ew, hb1, by omega, hb2, by rw [hb2]; exact h2, hpin, h7, ?_⟩
  refine I.wr eb hb1 hk ?_ (fun hz _ => ?_) (fun hf => ?_) (fun hu => ?_) r
  · rw [hb2]
    unfold inM at h3 ⊢
    rw [List.any_eq_true] at h3 ⊢
    obtain ⟨q, hq, hq2⟩ := h3
    refine ⟨q, hq, ?_⟩
    rw [Bool.and_eq_true] at hq2 ⊢
    exact ⟨hq2.1, by rw [Bool.or_eq_true]; exact Or.inl (decide_eq_true h14)⟩
  · rcases h6 with h6 | h6
    · exact absurd hz (hb4 h6)
    · rw [hb2]
      exact asto_ok h14 h6 hv x1 x3
  · rcases h5 with h5 | h5
    · exact absurd h5 hf
    · rw [hb2]; exact h5
  · rcases h4 with h4 | h4
    · exact absurd h4 hu
    · rw [hb2]; exact h4
theorem o28 (hw : wfB α = true) (I : Inv X rw Z0 σ0 vs Z ρ α lv st σ) (h : ast X (28, nx, q1, q2, ts) α k = true) : Nx X rw Z0 σ0 vs (28, nx, q1, q2, ts) lv st σ k := by
  have h : (match α.2.2.1 with
    | v :: i :: x :: r => (eg α v).1.1 == 0 && aastx X α (fun c => c == 1) v i x r (k nx)
    | _ => false) = true := h
  split at h
  · rename_i v i x r hs
    obtain ⟨h1, h2⟩ := kN h
    rw [beq_iff_eq] at h1
    obtain ⟨u, eu, _⟩ := I.1.int h1
    obtain ⟨b, w, α', eb, ew, hb1, h14, hb2, hc, hpin, hk, J⟩ := ast_ I (I.1.ok (by omega)).1 h2
    rw [beq_iff_eq] at hc
    have hst := I.1.stk hs
    rw [List.map_cons, List.map_cons, List.map_cons, eb, ew, eu] at hst
    refine ⟨nx, lv, _, _, α', ρ, Z, ?_, hk, J⟩
    show f_iast _ _ _ _ = _
    unfold f_iast
    rw [hst]
    simp only
    rw [if_pos (by rw [Bool.and_eq_true]; exact ⟨isRow_mk hb1 h14 hc, hpin⟩), eu]
  · cases h
theorem o30 (hw : wfB α = true) (I : Inv X rw Z0 σ0 vs Z ρ α lv st σ) (h : ast X (30, nx, q1, q2, ts) α k = true) : Nx X rw Z0 σ0 vs (30, nx, q1, q2, ts) lv st σ k := by
  have h : (match α.2.2.1 with
    | v :: i :: x :: r => (eg α v).1.1 == 1 && aastx X α (fun c => c == 2) v i x r (k nx)
    | _ => false) = true := h
  split at h
  · rename_i v i x r hs
    obtain ⟨h1, h2⟩ := kN h
    rw [beq_iff_eq] at h1
    obtain ⟨u, eu, _⟩ := I.1.long h1
    obtain ⟨b, w, α', eb, ew, hb1, h14, hb2, hc, hpin, hk, J⟩ := ast_ I (I.1.ok (by omega)).1 h2
    rw [beq_iff_eq] at hc
    have hst := I.1.stk hs
    rw [List.map_cons, List.map_cons, List.map_cons, eb, ew, eu] at hst
    refine ⟨nx, lv, _, _, α', ρ, Z, ?_, hk, J⟩
    show f_last _ _ _ _ = _
    unfold f_last
    rw [hst]
    simp only
    rw [if_pos (by rw [Bool.and_eq_true]; exact ⟨isRow_mk hb1 h14 hc, hpin⟩), eu]
  · cases h
theorem o31 (hw : wfB α = true) (I : Inv X rw Z0 σ0 vs Z ρ α lv st σ) (h : ast X (31, nx, q1, q2, ts) α k = true) : Nx X rw Z0 σ0 vs (31, nx, q1, q2, ts) lv st σ k := by
  have h : (match α.2.2.1 with
    | v :: i :: x :: r => ((eg α v).1.1 == 2 && decide (akind α v = rowC (rk (akind α x)).1)) && aastx X α rowRef v i x r (k nx)
    | _ => false) = true := h
  split at h
  · rename_i v i x r hs
    obtain ⟨h1, h2⟩ := kN h
    rw [Bool.and_eq_true, beq_iff_eq, decide_eq_true_eq] at h1
    obtain ⟨u, eu, zu, ku⟩ := (I.1.ok (i := v) (by omega)).1.r h1.1
    obtain ⟨b, w, α', eb, ew, hb1, h14, hb2, hc, hpin, hk, J⟩ := ast_ I (I.1.ok (by omega)).1 h2
    have hst := I.1.stk hs
    rw [List.map_cons, List.map_cons, List.map_cons, eb, ew, eu] at hst
    refine ⟨nx, lv, _, _, α', ρ, Z, ?_, hk, J⟩
    show f_aast _ _ _ _ = _
    unfold f_aast
    rw [hst]
    simp only
    rw [if_pos, eu]
    rw [Bool.and_eq_true, Bool.and_eq_true]
    exact ⟨isRowQ_mk hb1 h14 hc, hpin, pis_mk (I.1.2.2.2.2.2.1 u zu).1 (by rw [hb2, ← h1.2]; exact ku)⟩
  · cases h
end HP
