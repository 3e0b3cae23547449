theorem ndB_ok : ∀ (l : List Nat), ndB l = true → l.Nodup := by
  intro l
  induction l with
  | nil => intro _; exact List.nodup_nil
  | cons a r ih =>
    intro h
    unfold ndB at h
    obtain ⟨h1, h2⟩ := kN h
    refine List.nodup_cons.mpr ⟨fun hm => ?_, ih h2⟩
    rw [Bool.not_eq_true'] at h1
    rw [List.contains_iff_mem.mpr hm] at h1
    cases h1
theorem raws_mem : ∀ (as : List Nat) (env : List AE) (i : Nat) (e : AE), env[i]? = some e → e.1.1 = 4 → i < as.length → as.getD i 0 ∈ raws as env := by
  intro as
  induction as with
  | nil => intro env i e _ _ hi; simp at hi
  | cons s as ih =>
    intro env i e he h4 hi
    cases env with
    | nil => simp at he
    | cons e0 env =>
      cases i with
      | zero =>
        simp at he
        subst he
        unfold raws
        rw [if_pos h4]
        exact List.mem_cons_self
      | succ i =>
        have he : env[i]? = some e := he
        have hm := ih env i e he h4 (by simp at hi; omega)
        have e1 : (s :: as).getD (i + 1) 0 = as.getD i 0 := rfl
        rw [e1]
        unfold raws
        split
        · exact List.mem_cons_of_mem _ hm
        · exact hm
theorem raws_inj : ∀ (as : List Nat) (env : List AE), (raws as env).Nodup → ∀ (i j : Nat) (e e' : AE), env[i]? = some e → env[j]? = some e' → e.1.1 = 4 → e'.1.1 = 4 → i < as.length → j < as.length → as.getD i 0 = as.getD j 0 → i = j := by
  intro as
  induction as with
  | nil => intro env _ i j e e' _ _ _ _ hi; simp at hi
  | cons s as ih =>
    intro env hn i j e e' he he' h4 h4' hi hj heq
    cases env with
    | nil => simp at he
    | cons e0 env =>
      unfold raws at hn
      cases i with
      | zero =>
        simp at he
        subst he
        rw [if_pos h4] at hn
        cases j with
        | zero => rfl
        | succ j =>
          have he' : env[j]? = some e' := he'
          have hm := raws_mem as env j e' he' h4' (by simp at hj; omega)
          have e1 : (s :: as).getD (j + 1) 0 = as.getD j 0 := rfl
          have e2 : (s :: as).getD 0 0 = s := rfl
          rw [e1, e2] at heq
          rw [← heq] at hm
          exact absurd hm (List.nodup_cons.mp hn).1
      | succ i =>
        have he : env[i]? = some e := he
        have e1 : (s :: as).getD (i + 1) 0 = as.getD i 0 := rfl
        have hi' : i < as.length := by simp at hi; omega
        cases j with
        | zero =>
          simp at he'
          subst he'
          rw [if_pos h4'] at hn
          have hm := raws_mem as env i e he h4 hi'
          have e2 : (s :: as).getD 0 0 = s := rfl
          rw [e1, e2] at heq
          rw [heq] at hm
          exact absurd hm (List.nodup_cons.mp hn).1
        | succ j =>
          have he' : env[j]? = some e' := he'
          have e2 : (s :: as).getD (j + 1) 0 = as.getD j 0 := rfl
          rw [e1, e2] at heq
          have hn' : (raws as env).Nodup := by
            split at hn
            · exact (List.nodup_cons.mp hn).2
            · exact hn
          rw [ih env hn' i j e e' he he' h4 h4' hi' (by simp at hj; omega) heq]
theorem mlv_ok {α : AS} (hw : ∀ q ∈ α.2.1, q.2 < α.1.length) : ∀ (l : List (Nat × Nat)) (as0 as : List Nat), mlv α as0 l = some as → (∀ s ∈ as0, s < α.1.length) → (∃ l', as = as0 ++ l') ∧ (∀ s ∈ as, s < α.1.length) ∧ ∀ c ∈ l, c.2 < as.length ∧ alk α.2.1 c.1 = some (as.getD c.2 0) := by
  intro l
  induction l with
  | nil =>
    intro as0 as h hs
    cases h
    exact ⟨⟨[], by simp⟩, hs, fun c hc => by cases hc⟩
  | cons c r ih =>
    intro as0 as h hs
    unfold mlv at h
    split at h
    · cases h
    · rename_i s hs1
      split at h
      · rename_i hl
        obtain ⟨⟨l', e⟩, h2, h3⟩ := ih (as0 ++ [s]) as h (fun q hq => by
          rcases List.mem_append.mp hq with hq | hq
          · exact hs q hq
          · rw [List.mem_singleton] at hq
            subst hq
            exact hw _ (alk_mem hs1))
        refine ⟨⟨s :: l', by rw [e]; simp⟩, h2, fun c' hc' => ?_⟩
        rcases List.mem_cons.mp hc' with rfl | hc'
        · refine ⟨by rw [e, hl]; simp, ?_⟩
          rw [hs1, e, hl, List.getD_eq_getElem?_getD]
          simp
        · exact h3 c' hc'
      · split at h
        · rename_i hl
          obtain ⟨⟨l', e⟩, h2, h3⟩ := ih as0 as h hs
          refine ⟨⟨l', e⟩, h2, fun c' hc' => ?_⟩
          rcases List.mem_cons.mp hc' with rfl | hc'
          · refine ⟨by rw [e, List.length_append]; omega, ?_⟩
            rw [hs1, e, getD_app hl.1, hl.2]
          · exact h3 c' hc'
        · cases h
theorem mst_ok {N : Nat} : ∀ (cs ss as0 as : List Nat), mst as0 cs ss = some as → (∀ s ∈ as0, s < N) → (∀ s ∈ ss, s < N) → (∃ l', as = as0 ++ l') ∧ (∀ s ∈ as, s < N) ∧ (∀ c ∈ cs, c < as.length) ∧ cs.map (fun c => as.getD c 0) = ss := by
  intro cs
  induction cs with
  | nil =>
    intro ss as0 as h hs hss
    cases ss with
    | nil =>
      unfold mst at h
      cases h
      exact ⟨⟨[], by simp⟩, hs, (fun c hc => by cases hc), rfl⟩
    | cons s ss => unfold mst at h; cases h
  | cons c r ih =>
    intro ss as0 as h hs hss
    cases ss with
    | nil => unfold mst at h; cases h
    | cons s ss =>
      unfold mst at h
      split at h
      · rename_i hl
        obtain ⟨⟨l', e⟩, h2, h3, h4⟩ := ih ss (as0 ++ [s]) as h (fun q hq => by
          rcases List.mem_append.mp hq with hq | hq
          · exact hs q hq
          · rw [List.mem_singleton] at hq
            subst hq
            exact hss _ List.mem_cons_self) (fun q hq => hss q (List.mem_cons_of_mem _ hq))
        refine ⟨⟨s :: l', by rw [e]; simp⟩, h2, fun c' hc' => ?_, ?_⟩
        · rcases List.mem_cons.mp hc' with rfl | hc'
          · rw [e, hl]; simp
          · exact h3 c' hc'
        · rw [List.map_cons, h4]
          congr 1
          rw [e, hl, List.getD_eq_getElem?_getD]
          simp
      · split at h
        · rename_i hl
          obtain ⟨⟨l', e⟩, h2, h3, h4⟩ := ih ss as0 as h hs (fun q hq => hss q (List.mem_cons_of_mem _ hq))
          refine ⟨⟨l', e⟩, h2, fun c' hc' => ?_, ?_⟩
          · rcases List.mem_cons.mp hc' with rfl | hc'
            · rw [e, List.length_append]; omega
            · exact h3 c' hc'
          · rw [List.map_cons, h4]
            congr 1
            rw [e, getD_app hl.1, hl.2]
        · cases h
theorem aLe_raw {a b : AV} (h : aLe a b = true) (hb : b.1 = 4) : a.1 = 4 := by
  unfold aLe at h
  split at h
  · simp [hb] at h
  · split at h
    · simp [hb] at h
    · split at h
      · simp [hb] at h
      · split at h
        · simp [hb] at h
        · split at h
          · rename_i h4; exact h4
          · split at h
            · simp [hb] at h
            · cases h
theorem alk_of : ∀ (l : List (Nat × Nat)) (ρ : Nat → Value) (i : Nat) (v : Value), plk (l.map (fun q => (q.1, ρ q.2))) i = some v → ∃ s, (i, s) ∈ l ∧ v = ρ s := by
  intro l
  induction l with
  | nil => intro ρ i v h; cases h
  | cons q r ih =>
    intro ρ i v h
    have h : (if q.1 = i then some (ρ q.2) else plk (r.map (fun q => (q.1, ρ q.2))) i) = some v := h
    split at h
    · rename_i he
      refine ⟨q.2, ?_, (Option.some.inj h).symm⟩
      rw [← he]
      exact List.mem_cons_self
    · obtain ⟨s, h1, h2⟩ := ih ρ i v h
      exact ⟨s, List.mem_cons_of_mem _ h1, h2⟩
section MT
variable {X : CT} {rw : Nat → Prop} {Z0 : Nat → Prop} {σ0 : ps} {vs : List Value} {Z : Nat → Prop} {ρ : Nat → Value} {α β : AS} {lv : LV} {st : List Value} {σ : ps}
theorem Nd.of {l : List (Nat × Nat)} (h : (l.map (·.1)).Nodup) (ρ : Nat → Value) : Nd (l.map (fun q => (q.1, ρ q.2))) := by
  unfold Nd
  rw [List.map_map]
  exact h
set_option maxHeartbeats 1000000 in
theorem amatch_ok {self : Nat} (I : Inv X rw Z0 σ0 vs Z ρ α lv st σ) (h : amatch vs.length α β self = true) :
    ∃ (ρ' : Nat → Value) (lv' : LV), Inv X rw Z0 σ0 vs Z ρ' β lv' st σ ∧ lvLe lv' lv ∧ Nd lv' ∧ Nd lv ∧ (¬ self = 0 → self ≤ β.1.length ∧ ∃ x y : Int32, ρ (self - 1) = .int y ∧ ρ' (self - 1) = .int x ∧ y.toInt < x.toInt) := by
  unfold amatch at h
  obtain ⟨h1, h⟩ := kN h
  obtain ⟨h1, n1⟩ := kN h1
  obtain ⟨hw, h1⟩ := kN h1
  obtain ⟨n1, n2⟩ := kN n1
  rw [decide_eq_true_eq] at h1
  split at h
  · cases h
  · rename_i as1 e1
    split at h
    · cases h
    · rename_i as2 e2
      split at h
      · cases h
      · rename_i as e3
        obtain ⟨hle, h⟩ := kN h
        obtain ⟨hd1, h⟩ := kN h
        obtain ⟨hd2, h⟩ := kN h
        obtain ⟨hraw, h⟩ := kN h
        obtain ⟨hce, h⟩ := kN h
        obtain ⟨hsl, hself⟩ := kN h
        rw [decide_eq_true_eq] at hce hsl
        have r0 : ∀ s ∈ List.range vs.length, s < α.1.length := fun s hs => by
          have := List.mem_range.mp hs
          omega
        obtain ⟨⟨l1, p1⟩, s1, m1⟩ := mlv_ok (wf_lv hw) _ _ _ e1 r0
        obtain ⟨⟨l2, p2⟩, s2, m2, m2'⟩ := mst_ok _ _ _ _ e2 s1 (wf_st hw)
        obtain ⟨⟨l3, p3⟩, s3, m3⟩ := asg_ok hw I.1 _ _ _ e3 s2
        obtain ⟨hlen, hok⟩ := asle_ok I.1 s3 hle
        rw [List.length_map] at hlen
        have id0 : ∀ i, i < vs.length → as.getD i 0 = i := by
          intro i hi
          rw [p3, p2, p1, List.append_assoc, List.append_assoc, getD_app (by rw [List.length_range]; exact hi), List.getD_eq_getElem?_getD, List.getElem?_range hi]
          rfl
        have hvl : vs.length ≤ as.length := by
          rw [p3, p2, p1]
          simp only [List.length_append, List.length_range]
          omega
        have g2 : ∀ i, i < as2.length → as.getD i 0 = as2.getD i 0 := fun i hi => by rw [p3, getD_app hi]
        have l2' : as2.length ≤ as.length := by rw [p3, List.length_append]; omega
        have g1 : ∀ i, i < as1.length → as2.getD i 0 = as1.getD i 0 := fun i hi => by rw [p2, getD_app hi]
        have l1' : as1.length ≤ as2.length := by rw [p2, List.length_append]; omega
        have hρ : ∀ i, i < as.length → (as.map ρ).getD i .null = ρ (as.getD i 0) := fun i hi => getD_map hi
        have envi : ∀ (i : Nat) (e : AE), β.1[i]? = some e → i < as.length ∧ aLe (eg α (as.getD i 0)).1 e.1 = true ∧ okA Z (sL σ) (sK σ) e.1 (ρ (as.getD i 0)) := by
          intro i e he
          have hi := (List.getElem?_eq_some_iff.mp he).1
          have hi' : i < as.length := by omega
          refine ⟨hi', ?_, ?_⟩
          · unfold asle at hle
            have q := List.all_eq_true.mp (kN hle).2 i (List.mem_range.mpr (by rw [List.length_map]; exact hi))
            have et : (β.1.map (·.1)).getD i aNull = e.1 := by
              rw [List.getD_eq_getElem?_getD, List.getElem?_map, he]
              rfl
            rw [et] at q
            exact q
          · refine hok i e.1 _ (by rw [List.getElem?_map, he]; rfl) ?_
            rw [List.getElem?_map, List.getElem?_eq_getElem hi', List.getD_eq_getElem?_getD, List.getElem?_eq_getElem hi']
            rfl
        have rawi : ∀ (i : Nat) (e : AE), β.1[i]? = some e → e.1.1 = 4 → α.1[as.getD i 0]? = some (eg α (as.getD i 0)) ∧ (eg α (as.getD i 0)).1.1 = 4 := by
          intro i e he h4
          obtain ⟨q1, q2, q3⟩ := envi i e he
          exact ⟨eg_get (s3 _ (getD_mem q1)), aLe_raw q2 h4⟩
        refine ⟨fun i => (as.map ρ).getD i .null, β.2.1.map (fun q => (q.1, (as.map ρ).getD q.2 .null)), ⟨⟨?_, rfl, ?_, m3, ?_, I.1.2.2.2.2.2⟩, I.2.1, ?_, ?_, ?_, ?_⟩, ?_, Nd.of (ndB_ok _ n2) (fun i => (as.map ρ).getD i .null), ?_, ?_⟩
        · intro i e he
          obtain ⟨q1, q2, q3⟩ := envi i e he
          simp only
          rw [hρ i q1]
          refine ⟨q3, ?_⟩
          by_cases hz : e.2.1 = 0
          · exact Or.inl hz
          · have d1 := List.all_eq_true.mp hd1 e (List.mem_of_getElem? he)
            rw [Bool.or_eq_true, decide_eq_true_eq, Bool.and_eq_true, decide_eq_true_eq, beq_iff_eq] at d1
            have d1 := d1.resolve_left hz
            have d2 := List.all_eq_true.mp hd2 i (List.mem_range.mpr (List.getElem?_eq_some_iff.mp he).1)
            have ee : β.1.getD i ((9, 0, 0, 0, 0), 0, 0) = e := by rw [List.getD_eq_getElem?_getD, he]; rfl
            rw [ee, Bool.or_eq_true, decide_eq_true_eq, Bool.or_eq_true, beq_iff_eq, Bool.and_eq_true, decide_eq_true_eq, decide_eq_true_eq] at d2
            have hb : e.2.1 - 1 < vs.length := by omega
            have eb : (as.map ρ).getD (e.2.1 - 1) .null = ρ (e.2.1 - 1) := by rw [hρ _ (by omega), id0 _ hb]
            rcases d2.resolve_left hz with d3 | ⟨d3, d4⟩
            · have dd := (I.1.1 _ _ (eg_get (s3 _ (getD_mem q1)))).2
              unfold depOK at dd
              rw [d3] at dd
              rcases dd with dd | ⟨x, y, a1, a2, a3⟩
              · exact absurd dd hz
              · exact Or.inr ⟨x, y, by simp only; rw [hρ i q1]; exact a1, eb.trans a2, a3⟩
            · obtain ⟨x, ex, _⟩ := q3.i d1.2
              refine Or.inr ⟨x, x, by simp only; rw [hρ i q1]; exact ex, ?_, by omega⟩
              simp only
              rw [eb, show e.2.1 - 1 = as.getD i 0 by omega]
              exact ex
        · rw [I.1.2.2.1, ← m2', List.map_map]
          refine List.map_congr_left (fun c hc => ?_)
          have := m2 c hc
          show ρ (as2.getD c 0) = _
          rw [hρ c (by omega), g2 c this]
        · intro i j e e' he he' h4 h4' heq
          obtain ⟨a1, a2⟩ := rawi i e he h4
          obtain ⟨b1, b2⟩ := rawi j e' he' h4'
          have i1 := (envi i e he).1
          have j1 := (envi j e' he').1
          simp only at heq
          rw [hρ i i1, hρ j j1] at heq
          exact raws_inj as β.1 (ndB_ok _ hraw) i j e e' he he' h4 h4' i1 j1 (I.1.2.2.2.2.1 _ _ _ _ a1 b1 a2 b2 heq)
        · obtain ⟨q1, q2, q3⟩ := I.2.2.1
          exact ⟨fun hf => ⟨by have := (q1 hf).1; omega, by have := (q1 hf).2; omega⟩, q2, q3⟩
        · intro i v hv
          have hi := (List.getElem?_eq_some_iff.mp hv).1
          simp only
          rw [hρ i (by omega), id0 i hi]
          exact I.2.2.2.1 i v hv
        · omega
        · intro i e b he h4 hb hb0
          obtain ⟨a1, a2⟩ := rawi i e he h4
          simp only at hb
          rw [hρ i (envi i e he).1] at hb
          exact I.2.2.2.2.2 _ _ b a1 a2 hb hb0
        · intro i v hv
          obtain ⟨s, hm, ev⟩ := alk_of β.2.1 (fun i => (as.map ρ).getD i .null) i v hv
          obtain ⟨c1, c2⟩ := m1 (i, s) hm
          simp only at c1 c2
          rw [I.1.lk c2, ev]
          rw [hρ s (by omega), g2 s (by omega), g1 s c1]
        · rw [I.1.2.1]
          exact Nd.of (ndB_ok _ n1) _
        · intro hs0
          rw [Bool.or_eq_true, decide_eq_true_eq] at hself
          have hself := hself.resolve_left hs0
          obtain ⟨k1, k2⟩ := kN hself
          obtain ⟨k1, k3⟩ := kN k1
          obtain ⟨k4, k5⟩ := kN k2
          rw [decide_eq_true_eq] at k1 k3 k4 k5
          refine ⟨k1, ?_⟩
          have hi : self - 1 < as.length := by omega
          have dd := (I.1.1 _ _ (eg_get (s3 _ (getD_mem hi)))).2
          rcases dd with dd | ⟨x, y, a1, a2, a3⟩
          · omega
          · rw [k3] at a2
            exact ⟨x, y, a2, by simp only; rw [hρ _ hi]; exact a1, by omega⟩
theorem Inv.sub {us : List Value} (I : Inv X rw Z0 σ0 us Z ρ α lv st σ) (h : ∀ (i : Nat) (v : Value), vs[i]? = some v → us[i]? = some v) : Inv X rw Z0 σ0 vs Z ρ α lv st σ := by
  refine ⟨I.1, I.2.1, I.2.2.1, fun i v hv => I.2.2.2.1 i v (h i v hv), ?_, I.2.2.2.2.2⟩
  refine Nat.le_trans ?_ I.2.2.2.2.1
  by_cases h0 : vs.length = 0
  · omega
  · have e := h (vs.length - 1) _ (List.getElem?_eq_getElem (by omega))
    have := (List.getElem?_eq_some_iff.mp e).1
    omega
end MT
def NOK (X : CT) (Z0 : Nat → Prop) (σ0 : ps) (vs : List Value) (P : Option Value → ps → Prop) (nd : ND) : Prop := ∀ (Z : Nat → Prop) (ρ : Nat → Value) (lv : LV) (st : List Value) (σ : ps), Inv X (rwOf X vs) Z0 σ0 vs Z ρ nd.2.1 lv st σ → wp X.1 nd.1 lv st σ P
def mu (ρ : Nat → Value) (s : Nat) : Nat := match ρ (s - 1) with
  | .int x => (2147483647 - x.toInt).toNat
  | _ => 0
section RN
variable {X : CT} {Z0 : Nat → Prop} {σ0 : ps} {vs : List Value} {P : Option Value → ps → Prop}
/-- an end tells P -/
def RetP (X : CT) (Z0 : Nat → Prop) (σ0 : ps) (vs : List Value) (P : Option Value → ps → Prop) : Prop := ∀ (Z : Nat → Prop) (ρ : Nat → Value) (α : AS) (lv : LV) (st : List Value) (σ : ps) (q : PI), wfB α = true → Inv X (rwOf X vs) Z0 σ0 vs Z ρ α lv st σ → aret X q α = true → ∃ r, pret (rt X.1) q st = some r ∧ P r σ
theorem arun_ok {ct : List CT} (hct : ∀ C ∈ ct, Valid C) {nd : ND} {rest : List ND} {ms : List Nat} (hlen : vs.length = (cEnv X).length) (hret : RetP X Z0 σ0 vs P) (hrest : ∀ t ∈ rest, NOK X Z0 σ0 vs P t) {ρ0 : Nat → Value} {us : List Value} (hus : ∀ (i : Nat) (v : Value), vs[i]? = some v → us[i]? = some v) (hu0 : ∀ i, i < nd.2.1.1.length → us[i]? = some (ρ0 i))
    (hself : 0 < nd.2.2 → ∀ (Z : Nat → Prop) (ρ : Nat → Value) (lv : LV) (st : List Value) (σ : ps), Inv X (rwOf X vs) Z0 σ0 vs Z ρ nd.2.1 lv st σ → (∃ x y : Int32, ρ0 (nd.2.2 - 1) = .int y ∧ ρ (nd.2.2 - 1) = .int x ∧ y.toInt < x.toInt) → wp X.1 nd.1 lv st σ P) :
    ∀ (n pc : Nat) (α : AS) (Z : Nat → Prop) (ρ : Nat → Value) (lv : LV) (st : List Value) (σ : ps), arun ct X nd rest ms n pc α = true → Inv X (rwOf X vs) Z0 σ0 us Z ρ α lv st σ → wp X.1 pc lv st σ P := by
  intro n
  induction n with
  | zero => intro pc α Z ρ lv st σ h; cases h
  | succ n ih =>
    have step : ∀ (pc' : Nat) (β : AS) (Z : Nat → Prop) (ρ : Nat → Value) (lv : LV) (st : List Value) (σ : ps), (if ms.contains pc' then (rest.any (fun t => decide (t.1 = pc') && amatch X.2.1.length β t.2.1 0) || (decide (0 < nd.2.2) && (decide (nd.1 = pc') && amatch X.2.1.length β nd.2.1 nd.2.2))) else arun ct X nd rest ms n pc' β) = true → Inv X (rwOf X vs) Z0 σ0 us Z ρ β lv st σ → wp X.1 pc' lv st σ P := by
      intro pc' β Z ρ lv st σ h I
      split at h
      · have I' := I.sub hus
        rw [Bool.or_eq_true] at h
        rcases h with h | h
        · obtain ⟨t, ht, h⟩ := List.any_eq_true.mp h
          obtain ⟨a1, a2⟩ := kN h
          rw [decide_eq_true_eq] at a1
          rw [show X.2.1.length = vs.length from hlen.symm] at a2
          obtain ⟨ρ', lv', J, b1, b2, b3, _⟩ := amatch_ok I' a2
          rw [← a1]
          exact wp_sub b1 b2 b3 (hrest t ht Z ρ' lv' st σ J)
        · obtain ⟨a0, h⟩ := kN h
          obtain ⟨a1, a2⟩ := kN h
          rw [decide_eq_true_eq] at a0 a1
          rw [show X.2.1.length = vs.length from hlen.symm] at a2
          obtain ⟨ρ', lv', J, b1, b2, b3, b4⟩ := amatch_ok I' a2
          obtain ⟨c1, x, y, c2, c3, c4⟩ := b4 (by omega)
          rw [← a1]
          refine wp_sub b1 b2 b3 (hself a0 Z ρ' lv' st σ J ⟨x, y, ?_, c3, c4⟩)
          rw [← c2]
          exact (I.2.2.2.1 _ _ (hu0 (nd.2.2 - 1) (by omega))).symm
      · exact ih pc' β Z ρ lv st σ h I
    intro pc α Z ρ lv st σ h I
    unfold arun at h
    obtain ⟨hw, h⟩ := kN h
    split at h
    · cases h
    · rename_i q hq
      split at h
      · rename_i h36
        exact acall_ok hct hq h36 hw I h (fun α' ρ' Z' st' σ' _ hk J => step _ _ _ _ _ _ _ hk J)
      · rename_i h36
        split at h
        · obtain ⟨r, h1, h2⟩ := hret _ _ _ _ _ _ _ hw (I.sub hus) h
          exact wp_ret hq h36 h1 h2
        · rename_i hr
          obtain ⟨pc', lv', st', σ', α', ρ', Z', h1, h2, J⟩ := ast_ok hw I h
          exact wp_step hq h36 (pret_none hr) h1 (step _ _ _ _ _ _ _ h2 J)
end RN
