theorem arf_len : ∀ (as : List Nat) (ts : List AV) (env : List AE), (arf env as ts).length = env.length := by
  intro as
  induction as with
  | nil => intro ts env; cases ts <;> rfl
  | cons s as ih =>
    intro ts env
    cases ts with
    | nil => rfl
    | cons t ts =>
      unfold arf
      rw [ih]
      split
      · rw [List.length_set]
      · rfl
theorem arf_ok {Z1 : Nat → Prop} {L1 : List Nat} {K1 : Nat → Nat} {ρ : Nat → Value} : ∀ (as : List Nat) (ts : List AV) (env : List AE), as.length = ts.length → (∀ (i : Nat) (s : Nat) (t : AV), as[i]? = some s → ts[i]? = some t → okA Z1 L1 K1 t (ρ s)) → (∀ (i : Nat) (e : AE), env[i]? = some e → (okA Z1 L1 K1 e.1 (ρ i) ∧ depOK ρ i e) ∨ (e.1.1 = 4 ∧ (∃ b, ρ i = .ref b) ∧ i ∈ as)) → ∀ (i : Nat) (e : AE), (arf env as ts)[i]? = some e → okA Z1 L1 K1 e.1 (ρ i) ∧ depOK ρ i e := by
  intro as
  induction as with
  | nil =>
    intro ts env _ _ h i e he
    have he : env[i]? = some e := by cases ts <;> exact he
    rcases h i e he with q | ⟨_, _, q⟩
    · exact q
    · cases q
  | cons s as ih =>
    intro ts env hl ht h i e he
    cases ts with
    | nil => cases hl
    | cons t ts =>
      unfold arf at he
      refine ih ts _ (by simpa using hl) (fun i s' t' a b => ht (i + 1) s' t' a b) ?_ i e he
      intro i e he
      split at he
      · rename_i e0 he0
        have hlt := (List.getElem?_eq_some_iff.mp he0).1
        by_cases hi : i = s
        · subst hi
          rw [List.getElem?_set_self hlt] at he
          cases he
          have h0 := ht 0 i t rfl rfl
          left
          unfold amt
          split
          · rename_i hc
            rcases h i e0 he0 with q | ⟨q, _⟩
            · obtain ⟨x, ex, a1, a2, a3, a4⟩ := q.1.i hc.1
              rw [ex] at h0
              obtain ⟨y, ey, b1, b2, _⟩ := h0.i hc.2
              cases ey
              refine ⟨?_, q.2⟩
              rw [ex]
              exact aSh_ok (by simp only; omega) (by simp only; omega) a3 a4
            · omega
          · split
            · rename_i hc
              rcases h i e0 he0 with q | ⟨_, ⟨b, eb⟩, _⟩
              · exact q
              · rw [eb] at h0
                rcases hc with hc | hc
                · obtain ⟨_, e, _⟩ := h0.i hc; cases e
                · obtain ⟨_, e, _⟩ := h0.l hc; cases e
            · exact ⟨h0, Or.inl rfl⟩
        · rw [List.getElem?_set_ne (Ne.symm hi)] at he
          rcases h i e he with q | ⟨q1, q2, q3⟩
          · exact Or.inl q
          · refine Or.inr ⟨q1, q2, ?_⟩
            rcases List.mem_cons.mp q3 with q3 | q3
            · exact absurd q3 hi
            · exact q3
      · rename_i hn
        rcases h i e he with q | ⟨q1, q2, q3⟩
        · exact Or.inl q
        · refine Or.inr ⟨q1, q2, ?_⟩
          rcases List.mem_cons.mp q3 with q3 | q3
          · exact absurd (q3 ▸ he) (by rw [hn]; exact fun h => by cases h)
          · exact q3
theorem aLe_4 {a b : AV} (h : aLe a b = true) (h4 : b.1 = 4) : a.1 = 4 := by
  unfold aLe at h
  by_cases a0 : a.1 = 0
  · rw [if_pos a0] at h
    simp only [Bool.and_eq_true, decide_eq_true_eq] at h
    omega
  rw [if_neg a0] at h
  by_cases a1 : a.1 = 1
  · rw [if_pos a1] at h
    simp only [Bool.and_eq_true, decide_eq_true_eq] at h
    omega
  rw [if_neg a1] at h
  by_cases a2 : a.1 = 2
  · rw [if_pos a2] at h
    simp only [Bool.and_eq_true, Bool.or_eq_true, decide_eq_true_eq] at h
    omega
  rw [if_neg a2] at h
  by_cases a3 : a.1 = 3
  · rw [if_pos a3] at h
    simp only [Bool.and_eq_true, decide_eq_true_eq] at h
    omega
  rw [if_neg a3] at h
  by_cases a4 : a.1 = 4
  · exact a4
  rw [if_neg a4] at h
  by_cases a5 : a.1 = 5
  · rw [if_pos a5] at h
    simp only [Bool.or_eq_true, decide_eq_true_eq] at h
    omega
  rw [if_neg a5] at h
  cases h
section AC
variable {X : CT} {rw : Nat → Prop} {Z0 : Nat → Prop} {σ0 : ps} {vs : List Value} {Z : Nat → Prop} {ρ : Nat → Value} {α : AS} {lv : LV} {st : List Value} {σ : ps}
/-- what a call's end tells of fields -/
theorem apost_ok {as : List Nat} : ∀ (post : List (Nat × Int × Nat × Int × Int)) (α β : AS) (ρ : Nat → Value), Inv X rw Z0 σ0 vs Z ρ α lv st σ → (∀ s ∈ as, s < α.1.length) →
    (∀ p ∈ post, 0 ≤ p.2.1 ∧ ∃ (a : Nat) (x : Int32), ρ (as.getD p.1 0) = .ref a ∧ sV σ a p.2.1.toNat = .int x ∧ (p.2.2.1 = 0 → p.2.2.2.1 ≤ x.toInt ∧ x.toInt ≤ p.2.2.2.2) ∧ (¬ p.2.2.1 = 0 → p.2.2.1 - 1 < as.length → ∃ y : Int32, ρ (as.getD (p.2.2.1 - 1) 0) = .int y ∧ y.toInt + p.2.2.2.1 ≤ x.toInt ∧ x.toInt ≤ y.toInt + p.2.2.2.2)) →
    apost as α post = some β → ∃ ρ', Inv X rw Z0 σ0 vs Z ρ' β lv st σ := by
  intro post
  induction post with
  | nil =>
    intro α β ρ I _ _ h
    cases h
    exact ⟨ρ, I⟩
  | cons p r ih =>
    intro α β ρ I hs hp h
    unfold apost at h
    split at h
    · rename_i hc
      rw [Bool.and_eq_true, decide_eq_true_eq] at hc
      obtain ⟨hw, hpl⟩ := hc
      obtain ⟨p0, a, x, ea, ex, h0, h1⟩ := hp p List.mem_cons_self
      have hol := hs _ (getD_mem hpl)
      have step : ∀ (e : AE), okA Z (sL σ) (sK σ) e.1 (.int x) → ¬ e.1.1 = 4 → (e.2.1 = 0 ∨ ∃ u w : Int32, Value.int x = .int u ∧ ρ (e.2.1 - 1) = .int w ∧ u.toInt = w.toInt + e.2.2 ∧ e.2.1 - 1 < α.1.length) → apost as (α.1 ++ [e], α.2.1, α.2.2.1, (as.getD p.1 0, 0, p.2.1, α.1.length) :: α.2.2.2.1, α.2.2.2.2) r = some β → ∃ ρ', Inv X rw Z0 σ0 vs Z ρ' β lv st σ := by
        intro e he h4 hd hr
        have J := I.push hw (e := e) (v := .int x) he h4 hd (l := []) (fun q hq => by cases hq)
        have J2 := J.st α.2.2.1
        rw [map_ru (wf_st hw), ← I.1.2.2.1] at J2
        refine ih (α.1 ++ [e], α.2.1, α.2.2.1, (as.getD p.1 0, 0, p.2.1, α.1.length) :: α.2.2.2.1, α.2.2.2.2) β (ru ρ α.1.length (.int x)) ?_ ?_ ?_ hr
        · refine ⟨⟨J2.1.1, J2.1.2.1, J2.1.2.2.1, fun c hc => ?_, J2.1.2.2.2.2.1, J2.1.2.2.2.2.2⟩, J2.2.1, J2.2.2.1, J2.2.2.2⟩
          rcases List.mem_cons.mp hc with ec | hc
          · subst ec
            refine Or.inr ⟨a, ?_, Or.inl ⟨rfl, ?_⟩⟩
            · show ru ρ α.1.length _ (as.getD p.1 0) = _
              rw [ru_ne _ (by omega)]; exact ea
            · show sV σ a p.2.1.toNat = ru ρ α.1.length _ α.1.length
              rw [ru_self]; exact ex
          · exact J2.1.2.2.2.1 c hc
        · intro s hs'
          have := hs s hs'
          show s < (α.1 ++ [e]).length
          rw [List.length_append]
          omega
        · intro p' hp'
          obtain ⟨q0, a', x', ea', ex', q1, q2⟩ := hp p' (List.mem_cons_of_mem _ hp')
          have keep : ∀ (i : Nat) (v : Value), ρ (as.getD i 0) = v → (∃ b, v = .ref b) ∨ (i < as.length) → ru ρ α.1.length (.int x) (as.getD i 0) = v := by
            intro i v hv hor
            by_cases hi : i < as.length
            · have := hs _ (getD_mem hi)
              rw [ru_ne _ (by omega)]; exact hv
            · have e0 : as.getD i 0 = 0 := by
                rw [List.getD_eq_getElem?_getD, List.getElem?_eq_none (by omega)]; rfl
              rw [e0] at hv ⊢
              rw [ru_ne _ (by omega)]
              exact hv
          refine ⟨q0, a', x', keep _ _ ea' (Or.inl ⟨_, rfl⟩), ex', q1, fun hb hbl => ?_⟩
          obtain ⟨y, ey, y1, y2⟩ := q2 hb hbl
          exact ⟨y, keep _ _ ey (Or.inr hbl), y1, y2⟩
      split at h
      · rename_i hb
        have := h0 hb
        exact step _ (okA.mkI this.1 this.2) (aI_ne _ _) (Or.inl rfl) h
      · rename_i hb
        split at h
        · rename_i hc
          obtain ⟨y, ey, y1, y2⟩ := h1 hb hc.2
          obtain ⟨w, ew, b1, b2, _⟩ := I.1.int hc.1
          rw [ey] at ew
          cases ew
          refine step _ (okA.mkI (by omega) (by omega)) (aI_ne _ _) ?_ h
          simp only
          split
          · rename_i he
            exact adep_ok I.1 hw (hs _ (getD_mem hc.2)) ey (by omega)
          · exact Or.inl rfl
        · cases h
    · cases h
theorem lg_cat : ∀ (l : List Value), (lg_sl l).length = catS l := by
  intro l
  induction l with
  | nil => rfl
  | cons v r ih =>
    have e : lg_sl (v :: r) = (if v.category = 2 then [Slot.val v, .second] else [.val v]) ++ lg_sl r := rfl
    have e2 : catS (v :: r) = v.category + catS r := rfl
    rw [e, List.length_append, ih, e2]
    congr 1
    rcases lv_cat v with h | h
    · rw [if_neg (by omega), h]; rfl
    · rw [if_pos h, h]; rfl
theorem catS_rev (l : List Value) : catS l.reverse = catS l := by
  unfold catS
  rw [List.map_reverse, List.sum_reverse]
theorem wp_self {mi pc : Nat} {lv : LV} {st : List Value} {σ : ps} {P : Option Value → ps → Prop} (h : wp mi pc lv st σ P) : wp mi pc lv st σ (fun r σ' => P r σ' ∧ ∃ n, prun n mi pc lv st σ = some (r, σ')) := by
  obtain ⟨n, r, σ1, h1, h2⟩ := h
  exact ⟨n, r, σ1, h1, h2, n, h1⟩
set_option maxHeartbeats 4000000 in
theorem acall_ok {ct : List CT} (hct : ∀ C ∈ ct, Valid C) {q : PI} {k : Nat → AS → Bool} {pc : Nat} {P : Option Value → ps → Prop} (hq : pins X.1 pc = some q) (h36 : q.1 = 36) (hw : wfB α = true) (I : Inv X rw Z0 σ0 vs Z ρ α lv st σ) (h : acall ct X q α k = true) (kk : ∀ (α' : AS) (ρ' : Nat → Value) (Z' : Nat → Prop) (st' : List Value) (σ' : ps), (∃ n r, prun n q.2.2.1.toNat 0 (lv_args 0 (st.take (np q.2.2.1.toNat)).reverse) [] σ = some (r, σ')) → k q.2.1 α' = true → Inv X rw Z0 σ0 vs Z' ρ' α' lv st' σ' → wp X.1 q.2.1 lv st' σ' P) : wp X.1 pc lv st σ P := by
  unfold acall at h
  obtain ⟨h1, h2⟩ := kN h
  rw [List.any_eq_true] at h2
  obtain ⟨C, hC, h2⟩ := h2
  simp only [Bool.and_eq_true, decide_eq_true_eq] at h1
  obtain ⟨hnp, hcat, hloc, hrec⟩ := h1
  obtain ⟨hmi, h2⟩ := kN h2
  rw [decide_eq_true_eq] at hmi
  split at h2
  · cases h2
  rename_i as has
  obtain ⟨h3, h4⟩ := kN h2
  simp only [Bool.and_eq_true] at h3
  obtain ⟨hle, htail, hmod, hnk, hfl, hui⟩ := h3
  -- the arguments
  have hst := I.1.2.2.1
  have eTake : (st.take (np q.2.2.1.toNat)).reverse = ((α.2.2.1.take (np q.2.2.1.toNat)).reverse).map ρ := by rw [hst, ← List.map_take, ← List.map_reverse]
  have eDrop : st.drop (np q.2.2.1.toNat) = (α.2.2.1.drop (np q.2.2.1.toNat)).map ρ := by rw [hst, ← List.map_drop]
  have wfT : ∀ s ∈ α.2.2.1.take (np q.2.2.1.toNat), s < α.1.length := fun s hs => wf_st hw s (List.mem_of_mem_take hs)
  have wfR : ∀ s ∈ α.2.2.1.drop (np q.2.2.1.toNat), s < α.1.length := fun s hs => wf_st hw s (List.mem_of_mem_drop hs)
  have hlen : st.length = α.2.2.1.length := by rw [hst, List.length_map]
  have hcall : callOk σ q.2.2.2.1 q.2.2.1.toNat (np q.2.2.1.toNat) st = true := by
    unfold callOk
    simp only [Bool.and_eq_true, decide_eq_true_eq]
    refine ⟨by omega, ?_, ?_, ?_⟩
    · rw [eDrop, catL_ok I.1 wfR]; exact hcat
    · rw [lg_cat, catS_rev, hst, ← List.map_take, catL_ok I.1 wfT]; exact hloc
    · rw [eTake]
      unfold arec at hrec
      unfold callRec
      split at hrec
      · rename_i s r hsr
        rw [hsr, List.map_cons]
        split at hrec
        · rename_i hm0
          rw [Bool.and_eq_true, decide_eq_true_eq] at hrec
          obtain ⟨b, eb, b1, b2, _⟩ := I.1.obj hrec.1
          rw [eb]
          simp only
          rw [if_pos hm0]
          exact pis_mk b1 (b2.trans hrec.2)
        · rename_i hm0
          split at hrec
          · rename_i hm1
            split
            · rw [if_neg hm0]
            · exact decide_eq_true hm1
          · obtain ⟨b, eb, _⟩ := I.1.obj hrec
            rw [eb]
            simp only
            rw [if_neg hm0]
      · rename_i hsr
        rw [hsr]
        exact hrec
  obtain ⟨⟨l, eas⟩, hsas, hch⟩ := asg_ok hw I.1 _ _ _ has (fun s hs => wfT s (List.mem_reverse.mp hs))
  obtain ⟨hlas, hoks⟩ := asle_ok I.1 hsas hle
  have h4e : ∀ (i : Nat) (t : AV), (cEnv C)[i]? = some t → t.1 = 4 → i = 0 := by
    intro i t ht h4
    cases i with
    | zero => rfl
    | succ i =>
      have ht2 : (cEnv C).tail[i]? = some t := by rw [List.getElem?_tail]; exact ht
      have := List.all_eq_true.mp htail t (List.mem_of_getElem? ht2)
      rw [h4] at this
      cases this
  have hent : EntOK C Z σ (as.map ρ) := ⟨by rw [List.length_map]; exact hlas, hoks, hch, h4e⟩
  have hJ : ¬ cUi C = 0 → JJ σ := by
    intro hu
    by_cases hx : cUi X = 0
    · rw [if_pos hx, decide_eq_true_eq] at hui
      exact absurd hui hu
    · exact I.2.2.1.2.2 hx
  have hv := hct C hC Z σ (as.map ρ) I.1.2.2.2.2.2.1 I.1.2.2.2.2.2.2 hent hJ
  rw [hmi] at hv
  have eargs : (as.map ρ).take (np q.2.2.1.toNat) = (st.take (np q.2.2.1.toNat)).reverse := by
    rw [eTake, eas, List.map_append, List.take_append_of_le_length (by rw [List.length_map, List.length_reverse, List.length_take]; omega), List.take_of_length_le (by rw [List.length_map, List.length_reverse, List.length_take]; omega)]
  rw [eargs] at hv
  refine wp_call hq h36 hcall (wp_self hv) (fun r σ1 hpost => ?_)
  obtain ⟨hpost, nr, hrun⟩ := hpost
  obtain ⟨Z1, hT1, hlt1, hR1, hS1, alt, halt, hA1, hA2, hA3, hA4⟩ := hpost
  have h5 := List.all_eq_true.mp h4 alt halt
  split at h5
  · cases h5
  rename_i β hβ
  -- raw arguments
  have raw_as : ∀ (b : Nat), rwOf C (as.map ρ) b → ∃ s ∈ as, ∃ e, α.1[s]? = some e ∧ e.1.1 = 4 ∧ ρ s = .ref b := by
    rintro b ⟨i, t, ht, t4, hb⟩
    have hi := (List.getElem?_eq_some_iff.mp ht).1
    have hil : i < as.length := by omega
    rw [List.getElem?_map, List.getElem?_eq_getElem hil] at hb
    have ev : ρ (as.getD i 0) = .ref b := by
      rw [List.getD_eq_getElem?_getD, List.getElem?_eq_getElem hil]
      exact Option.some.inj hb
    have hm := getD_mem hil
    have hl2 := hsas _ hm
    unfold asle at hle
    rw [Bool.and_eq_true, List.all_eq_true] at hle
    have q1 := hle.2 i (List.mem_range.mpr hi)
    have et : (cEnv C).getD i aNull = t := by rw [List.getD_eq_getElem?_getD, ht]; rfl
    rw [et] at q1
    exact ⟨_, hm, _, eg_get hl2, aLe_4 q1 t4, ev⟩
  have hZ : ∀ b, Z b → b ∈ sL σ ∧ Z1 b := fun b hb => ⟨(I.1.2.2.2.2.2.1 b hb).1, hR1.2.1 b hb⟩
  have hK : ∀ b ∈ sL σ, sK σ1 b = sK σ b := fun b hb => (hR1.1 b hb).2.1
  have hL : ∀ b ∈ sL σ, b ∈ sL σ1 := fun b hb => (hR1.1 b hb).1
  have henv : ∀ (i : Nat) (e : AE), α.1[i]? = some e → (okA Z1 (sL σ1) (sK σ1) e.1 (ρ i) ∧ depOK ρ i e) ∨ (e.1.1 = 4 ∧ (∃ b, ρ i = .ref b) ∧ i ∈ as) := by
    intro i e he
    have q0 := I.1.1 i e he
    by_cases hin : e.1.1 = 4 ∧ i ∈ as
    · obtain ⟨b, eb, _⟩ := q0.1.w hin.1
      exact Or.inr ⟨hin.1, ⟨b, eb⟩, hin.2⟩
    · refine Or.inl ⟨q0.1.mono hZ hK hL (fun t4 b eb hz => ?_), q0.2⟩
      obtain ⟨b', eb', l', z', _⟩ := q0.1.w t4
      rw [eb] at eb'
      cases eb'
      rcases hR1.2.2.2.1 b l' hz with z | z
      · exact z' z
      · obtain ⟨s, hs, e', he', t4', es⟩ := raw_as b z
        have := I.1.2.2.2.2.1 i s e e' he he' t4 t4' (eb.trans es.symm)
        subst this
        exact hin ⟨t4, hs⟩
  have halt_s : ∀ (i : Nat) (s : Nat) (t : AV), as[i]? = some s → alt.1[i]? = some t → okA Z1 (sL σ1) (sK σ1) t (ρ s) := by
    intro i s t hs ht
    exact hA2 i t (ρ s) ht (by rw [List.getElem?_map, hs]; rfl)
  have hal : as.length = alt.1.length := by rw [hA1, List.length_map]
  have genv := arf_ok as alt.1 α.1 hal halt_s henv
  have raw_old : ∀ (i : Nat) (e : AE), (arf α.1 as alt.1)[i]? = some e → e.1.1 = 4 → ∃ e0, α.1[i]? = some e0 ∧ e0.1.1 = 4 := by
    intro i e he t4
    have hi := (List.getElem?_eq_some_iff.mp he).1
    rw [arf_len] at hi
    obtain ⟨b, eb, _, nz, _⟩ := (genv i e he).1.w t4
    refine ⟨eg α i, eg_get hi, ?_⟩
    have q0 := (I.1.1 i _ (eg_get hi)).1
    rw [eb] at q0
    rcases q0 with ⟨_, _, e, _⟩ | ⟨_, _, e, _⟩ | ⟨_, b', e, z, _⟩ | ⟨_, e | ⟨b', e, z, _⟩⟩ | ⟨t, _⟩ | ⟨_, e⟩
    · cases e
    · cases e
    · cases e; exact absurd (hR1.2.1 _ z) nz
    · cases e
    · cases e; exact absurd (hR1.2.1 _ z) nz
    · exact t
    · cases e
  have I1 : Inv X rw Z0 σ0 vs Z1 ρ (arf α.1 as alt.1, α.2.1, α.2.2.1.drop (np q.2.2.1.toNat), α.2.2.2.1.filter (ckc α (cMod C)), α.2.2.2.2.1 + cCe C, α.2.2.2.2.2 + cSl C) lv ((α.2.2.1.drop (np q.2.2.1.toNat)).map ρ) σ1 := by
    refine ⟨⟨genv, I.1.2.1, rfl, ?_, ?_, hT1, hlt1⟩, ?_, ?_, I.2.2.2.1, ?_, ?_⟩
    · intro c hc
      obtain ⟨hc1, hc2⟩ := List.mem_filter.mp hc
      have q0 := I.1.2.2.2.1 c hc1
      unfold ckc at hc2
      simp only [Bool.or_eq_true, Bool.and_eq_true, decide_eq_true_eq, Bool.not_eq_true'] at hc2
      rcases hc2 with t2 | ⟨ho, hk, hm⟩
      · rcases q0 with q0 | ⟨a, _, q0⟩
        · exact Or.inl q0
        · rcases q0 with ⟨t, _⟩ | ⟨t, _⟩ <;> omega
      · obtain ⟨b, eb, b1, b2, _⟩ := I.1.obj ho
        rcases q0 with q0 | ⟨a, ea, q0⟩
        · exact Or.inl q0
        · rw [eb] at ea
          cases ea
          refine Or.inr ⟨b, eb, ?_⟩
          rcases q0 with ⟨t, q0⟩ | ⟨t, w, ew, q0⟩
          · refine Or.inl ⟨t, ?_⟩
            rw [(hR1.1 b b1).2.2 _ (by rw [b2]; exact hm)]
            exact q0
          · refine Or.inr ⟨t, w, ew, ?_⟩
            rcases hk with hk | hk
            · omega
            · rw [(hR1.1 b b1).2.2 _ (by rw [b2, inM_row (j' := c.2.2.1.toNat) hk]; exact hm)]
              exact q0
    · intro i j e e' he he' t4 t4' hr
      obtain ⟨e0, he0, t0⟩ := raw_old i e he t4
      obtain ⟨e1, he1, t1⟩ := raw_old j e' he' t4'
      exact I.1.2.2.2.2.1 i j e0 e1 he0 he1 t0 t1 hr
    · refine I.2.1.tr hR1 hmod hnk (fun a ha hra => ?_)
      obtain ⟨s, _, e, he, t4, es⟩ := raw_as a hra
      exact I.2.2.2.2.2 s e a he t4 es ha
    · obtain ⟨z1, z2, z3⟩ := I.2.2.1
      obtain ⟨y1, y2, y3⟩ := hS1
      refine ⟨fun hx => ?_, fun hx => ?_, fun hx => ?_⟩
      · rw [if_pos hx, decide_eq_true_eq] at hfl
        have a1 := z1 hx
        have a2 := y1 hfl
        simp only
        omega
      · rw [if_neg hx] at hfl
        simp only [Bool.or_eq_true, Bool.and_eq_true, decide_eq_true_eq, Bool.not_eq_true'] at hfl
        refine (z2 hx).tr ?_
        rcases hfl with hfl | ⟨c0, s0, m26⟩
        · exact y2 (by omega)
        · by_cases hcf : cFl C = 0
          · have := y1 hcf
            exact RB.of hR1 hlt1 (by omega) (by omega) m26
          · exact y2 hcf
      · rw [if_neg hx] at hui
        simp only [Bool.or_eq_true, Bool.and_eq_true, decide_eq_true_eq, Bool.not_eq_true'] at hui
        rcases hui with hui | ⟨m1, m2, n1, n2⟩
        · exact y3 (by omega)
        · exact JJ.of hR1 (z3 hx) m1 m2 n1 n2
    · show _ ≤ (arf α.1 as alt.1).length
      rw [arf_len]
      exact I.2.2.2.2.1
    · intro i e b he t4 hb h0
      obtain ⟨e0, he0, t0⟩ := raw_old i e he t4
      exact I.2.2.2.2.2 i e0 b he0 t0 hb h0
  have vmap : ∀ (i : Nat) (v : Value), (as.map ρ)[i]? = some v → ρ (as.getD i 0) = v := by
    intro i v hv'
    have hil : i < as.length := by have := (List.getElem?_eq_some_iff.mp hv').1; rwa [List.length_map] at this
    rw [List.getElem?_map, List.getElem?_eq_getElem hil] at hv'
    rw [List.getD_eq_getElem?_getD, List.getElem?_eq_getElem hil]
    exact Option.some.inj hv'
  obtain ⟨ρ2, I2⟩ := apost_ok (as := as) alt.2.2 _ β ρ I1 (fun s hs => by show s < (arf α.1 as alt.1).length; rw [arf_len]; exact hsas s hs) (fun p hp => by
    obtain ⟨p0, a, x, ea, ex, p1, p2⟩ := hA4 p hp
    refine ⟨p0, a, x, vmap _ _ ea, ex, p1, fun hb _ => ?_⟩
    obtain ⟨y, ey, y1, y2⟩ := p2 hb
    exact ⟨y, vmap _ _ ey, y1, y2⟩) hβ
  rw [Bool.or_eq_true] at h5
  rcases h5 with h5 | h5
  · rw [List.any_eq_true] at h5
    obtain ⟨s, _, hd⟩ := h5
    exact absurd hd I2.1.nd
  · rw [eDrop]
    rcases hA3 with ⟨e1, e2⟩ | ⟨t, v, e1, e2, ht⟩
    · rw [e1] at h5
      subst e2
      exact kk _ _ _ _ _ ⟨nr, _, hrun⟩ h5 I2
    · rw [e1] at h5
      subst e2
      obtain ⟨h6, h7⟩ := kN h5
      rw [Bool.and_eq_true, Bool.not_eq_true', beq_eq_false_iff_ne] at h6
      have I3 := I2.push h6.1 (e := (t, 0, 0)) (v := v) ht h6.2 (Or.inl rfl) (l := β.2.2.1) (wf_st h6.1)
      rw [← I2.1.2.2.1] at I3
      exact kk _ _ _ _ _ ⟨nr, _, hrun⟩ h7 I3
end AC
