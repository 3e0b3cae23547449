theorem prun_more : ∀ (n mi pc : Nat) (lv : LV) (st : List Value) (σ : ps) (x : Option Value × ps), prun n mi pc lv st σ = some x → prun (n + 1) mi pc lv st σ = some x := by
  intro n
  induction n with
  | zero => intro mi pc lv st σ x h; cases h
  | succ n ih =>
    intro mi pc lv st σ x h
    unfold prun at h ⊢
    split at h
    · cases h
    · rename_i q hq
      split at h
      · rename_i h36
        rw [if_pos h36]
        split at h
        · rename_i hc
          rw [if_pos hc]
          split at h
          · cases h
          · rename_i r σ1 h1
            rw [ih _ _ _ _ _ _ h1]
            exact ih _ _ _ _ _ _ h
        · cases h
      · rename_i h36
        rw [if_neg h36]
        split at h
        · rename_i r hr
          exact h
        · rename_i hr
          split at h
          · cases h
          · rename_i h1
            exact ih _ _ _ _ _ _ h
theorem prun_le {n m mi pc : Nat} {lv : LV} {st : List Value} {σ : ps} {x : Option Value × ps} (h : prun n mi pc lv st σ = some x) (hm : n ≤ m) : prun m mi pc lv st σ = some x := by
  induction m with
  | zero =>
    have : n = 0 := by omega
    subst this
    exact h
  | succ m ih =>
    by_cases e : n = m + 1
    · subst e; exact h
    · exact prun_more _ _ _ _ _ _ _ (ih (by omega))
def wp (mi pc : Nat) (lv : LV) (st : List Value) (σ : ps) (P : Option Value → ps → Prop) : Prop := ∃ n r σ', prun n mi pc lv st σ = some (r, σ') ∧ P r σ'
theorem wp_step {mi pc pc' : Nat} {lv lv' : LV} {st st' : List Value} {σ σ' : ps} {P : Option Value → ps → Prop} {q : PI} (hq : pins mi pc = some q) (h36 : ¬ q.1 = 36) (hr : pret (rt mi) q st = none) (hp : pst q lv st σ = some (pc', lv', st', σ')) (h : wp mi pc' lv' st' σ' P) : wp mi pc lv st σ P := by
  obtain ⟨n, r, σ1, h1, h2⟩ := h
  refine ⟨n + 1, r, σ1, ?_, h2⟩
  unfold prun
  rw [hq]
  simp only
  rw [if_neg h36, hr]
  simp only
  rw [hp]
  exact h1
theorem wp_ret {mi pc : Nat} {lv : LV} {st : List Value} {σ : ps} {P : Option Value → ps → Prop} {q : PI} {r : Option Value} (hq : pins mi pc = some q) (h36 : ¬ q.1 = 36) (hr : pret (rt mi) q st = some r) (h : P r σ) : wp mi pc lv st σ P := by
  refine ⟨1, r, σ, ?_, h⟩
  unfold prun
  rw [hq]
  simp only
  rw [if_neg h36, hr]
theorem wp_call {mi pc : Nat} {lv : LV} {st : List Value} {σ : ps} {P Q : Option Value → ps → Prop} {q : PI} (hq : pins mi pc = some q) (h36 : q.1 = 36) (hc : callOk σ q.2.2.2.1 q.2.2.1.toNat (np q.2.2.1.toNat) st = true) (h : wp q.2.2.1.toNat 0 (lv_args 0 (st.take (np q.2.2.1.toNat)).reverse) [] σ Q) (kk : ∀ r σ1, Q r σ1 → wp mi q.2.1 lv (r.toList ++ st.drop (np q.2.2.1.toNat)) σ1 P) : wp mi pc lv st σ P := by
  obtain ⟨n, r, σ1, h1, h2⟩ := h
  obtain ⟨m, r', σ', h3, h4⟩ := kk r σ1 h2
  refine ⟨max n m + 1, r', σ', ?_, h4⟩
  unfold prun
  rw [hq]
  simp only
  rw [if_pos h36, if_pos hc, prun_le h1 (Nat.le_max_left _ _)]
  exact prun_le h3 (Nat.le_max_right _ _)
theorem wp_mono {mi pc : Nat} {lv : LV} {st : List Value} {σ : ps} {P Q : Option Value → ps → Prop} (h : wp mi pc lv st σ P) (hpq : ∀ r σ1, P r σ1 → Q r σ1) : wp mi pc lv st σ Q := by
  obtain ⟨n, r, σ1, h1, h2⟩ := h
  exact ⟨n, r, σ1, h1, hpq r σ1 h2⟩
theorem pret_none {t : Option FieldType} {q : PI} {st : List Value} (h : ¬ (37 ≤ q.1 ∧ q.1 ≤ 40)) : pret t q st = none := by
  obtain ⟨op, nx, x, y, ts⟩ := q
  simp only at h
  unfold pret
  split
  · rename_i e; simp only at e; omega
  · rename_i e; simp only at e; omega
  · rename_i e; simp only at e; omega
  · rename_i e; simp only at e; omega
  · rfl
def rwOf (C : CT) (vs : List Value) : Nat → Prop := fun b => ∃ (i : Nat) (t : AV), (cEnv C)[i]? = some t ∧ t.1 = 4 ∧ vs[i]? = some (.ref b)
def EntOK (C : CT) (Z : Nat → Prop) (σ : ps) (vs : List Value) : Prop :=
  vs.length = (cEnv C).length ∧ (∀ (i : Nat) (t : AV) (v : Value), (cEnv C)[i]? = some t → vs[i]? = some v → okA Z (sL σ) (sK σ) t v) ∧ (∀ c ∈ cCh C, chOK (fun i => vs.getD i .null) σ c) ∧ (∀ (i : Nat) (t : AV), (cEnv C)[i]? = some t → t.1 = 4 → i = 0)
def retOK (Z : Nat → Prop) (σ : ps) (l : List AV) (r : Option Value) : Prop := (l = [] ∧ r = none) ∨ ∃ t v, l = [t] ∧ r = some v ∧ okA Z (sL σ) (sK σ) t v
def altOK (Z : Nat → Prop) (σ : ps) (vs : List Value) (r : Option Value) (alt : ALT) : Prop :=
  alt.1.length = vs.length ∧ (∀ (i : Nat) (t : AV) (v : Value), alt.1[i]? = some t → vs[i]? = some v → okA Z (sL σ) (sK σ) t v) ∧ retOK Z σ alt.2.1 r ∧
  ∀ p ∈ alt.2.2, 0 ≤ p.2.1 ∧ ∃ (a : Nat) (x : Int32), vs[p.1]? = some (.ref a) ∧ sV σ a p.2.1.toNat = .int x ∧ (p.2.2.1 = 0 → p.2.2.2.1 ≤ x.toInt ∧ x.toInt ≤ p.2.2.2.2) ∧ (¬ p.2.2.1 = 0 → ∃ y : Int32, vs[p.2.2.1 - 1]? = some (.int y) ∧ y.toInt + p.2.2.2.1 ≤ x.toInt ∧ x.toInt ≤ y.toInt + p.2.2.2.2)
def Post (C : CT) (Z : Nat → Prop) (σ : ps) (vs : List Value) (r : Option Value) (σ' : ps) : Prop :=
  ∃ Z' : Nat → Prop, Typed Z' σ' ∧ (∀ a ∈ sL σ', a < σ'.1) ∧ Rl C (rwOf C vs) Z σ Z' σ' ∧ Sz C σ σ' (cCe C) (cSl C) ∧ ∃ alt ∈ cAlt C, altOK Z' σ' vs r alt
/-- the contract holds -/
def Valid (C : CT) : Prop := ∀ (Z : Nat → Prop) (σ : ps) (vs : List Value), Typed Z σ → (∀ a ∈ sL σ, a < σ.1) → EntOK C Z σ vs → (¬ cUi C = 0 → JJ σ) → wp C.1 0 (lv_args 0 (vs.take (np C.1))) [] σ (Post C Z σ vs)
theorem inM_row {m : List (Nat × Nat)} {k j j' : Nat} (h : 14 ≤ k) : inM m k j = inM m k j' := by
  unfold inM
  congr 1
  funext q
  simp [h]
theorem inM_sub {m m' : List (Nat × Nat)} (h : m.all (fun q => inM m' q.1 q.2) = true) {k j : Nat} (hk : inM m k j = true) : inM m' k j = true := by
  unfold inM at hk
  rw [List.any_eq_true] at hk
  obtain ⟨q, hq, hq2⟩ := hk
  rw [Bool.and_eq_true, beq_iff_eq, Bool.or_eq_true, decide_eq_true_eq, beq_iff_eq] at hq2
  have h1 := List.all_eq_true.mp h q hq
  rw [hq2.1] at h1
  rcases hq2.2 with h2 | h2
  · rw [inM_row h2]; exact h1
  · rw [h2] at h1; exact h1
/-- frames of calls, one behind another -/
theorem Rl.tr {X C : CT} {rw rw' : Nat → Prop} {Z0 Z Z1 : Nat → Prop} {σ0 σ σ1 : ps} (h : Rl X rw Z0 σ0 Z σ) (h1 : Rl C rw' Z σ Z1 σ1) (hm : (cMod C).all (fun q => inM (cMod X) q.1 q.2) = true) (hn : (cNk C).all (fun m => (cNk X).contains m) = true) (hr : ∀ a ∈ sL σ0, rw' a → rw a) : Rl X rw Z0 σ0 Z1 σ1 := by
  obtain ⟨a1, a2, a3, a4, a5, a6⟩ := h
  obtain ⟨b1, b2, b3, b4, b5, b6⟩ := h1
  refine ⟨fun a ha => ?_, fun a ha => b2 a (a2 a ha), fun a ha hn0 => ?_, fun a ha hz => ?_, by omega, by omega⟩
  · obtain ⟨s1, s2, s3⟩ := a1 a ha
    obtain ⟨t1, t2, t3⟩ := b1 a s1
    refine ⟨t1, t2.trans s2, fun j hj => ?_⟩
    rw [t3 j ?_, s3 j hj]
    rw [s2]
    cases hq : inM (cMod C) (sK σ0 a) j with
    | false => rfl
    | true => rw [inM_sub hm hq] at hj; cases hj
  · by_cases hl : a ∈ sL σ
    · obtain ⟨t1, t2, _⟩ := b1 a hl
      rw [t2]
      exact a3 a hl hn0
    · obtain ⟨t1, t2⟩ := b3 a ha hl
      refine ⟨?_, by omega⟩
      have := List.all_eq_true.mp hn (sK σ1 a) (by rw [List.contains_iff_mem] at t1; exact t1)
      exact this
  · rcases b4 a (a1 a ha).1 hz with q | q
    · exact a4 a ha q
    · exact Or.inr (hr a ha q)
theorem RB.of {C : CT} {rw : Nat → Prop} {Z Z1 : Nat → Prop} {σ σ1 : ps} (h : Rl C rw Z σ Z1 σ1) (hl : ∀ a ∈ sL σ1, a < σ1.1) (h1 : σ1.1 ≤ σ.1) (h2 : σ1.2.1 ≤ σ.2.1) (hm : inM (cMod C) 26 0 = false) : RB σ σ1 := by
  intro qa hq
  obtain ⟨q1, q2, q3⟩ := hq
  obtain ⟨t1, t2, t3⟩ := h.1 qa q1
  have e : nq σ1 qa = nq σ qa := by
    unfold nq
    congr 1
    funext i
    rw [t3 i (by rw [q2, inM_row (j' := 0) (by omega)]; exact hm)]
  refine ⟨⟨t1, t2.trans q2, fun b hb hk => ?_⟩, by rw [e]; omega, by rw [e]; omega⟩
  by_cases hb0 : b ∈ sL σ
  · exact q3 b hb0 (((h.1 b hb0).2.1).symm.trans hk)
  · have := (h.2.2.1 b hb hb0).2
    have := hl b hb
    omega
theorem JU.of {C : CT} {rw : Nat → Prop} {Z Z1 : Nat → Prop} {σ σ1 : ps} (h : Rl C rw Z σ Z1 σ1) (hJ : JU σ) (n1 : (cNk C).contains 97 = false) (n2 : (cNk C).contains 101 = false) : JU σ1 := by
  have old : ∀ a, a ∈ sL σ1 → (cNk C).contains (sK σ1 a) = false → a ∈ sL σ := by
    intro a ha hn
    by_cases h0 : a ∈ sL σ
    · exact h0
    · have := (h.2.2.1 a ha h0).1
      rw [hn] at this
      cases this
  intro a b ha hb hk h2
  have hn : (cNk C).contains (sK σ1 a) = false := by
    rcases h2 with e | e
    · rw [e]; exact n1
    · rw [e]; exact n2
  have ha0 := old a ha hn
  have hb0 := old b hb (by rw [← hk]; exact hn)
  have ka := (h.1 a ha0).2.1
  have kb := (h.1 b hb0).2.1
  exact hJ a b ha0 hb0 (by rw [← ka, ← kb]; exact hk) (by rw [← ka]; exact h2)
theorem JJ.of {C : CT} {rw : Nat → Prop} {Z Z1 : Nat → Prop} {σ σ1 : ps} (h : Rl C rw Z σ Z1 σ1) (hJ : JJ σ) (m1 : inM (cMod C) 97 0 = false) (m2 : inM (cMod C) 101 0 = false) (n1 : (cNk C).contains 97 = false) (n2 : (cNk C).contains 101 = false) : JJ σ1 := by
  refine ⟨JU.of h hJ.1 n1 n2, ?_⟩
  intro pa wa hp hw kp kw p hlt hne
  have old : ∀ a, a ∈ sL σ1 → (cNk C).contains (sK σ1 a) = false → a ∈ sL σ := by
    intro a ha hn
    by_cases h0 : a ∈ sL σ
    · exact h0
    · have := (h.2.2.1 a ha h0).1
      rw [hn] at this
      cases this
  have hp0 := old pa hp (by rw [kp]; exact n1)
  have hw0 := old wa hw (by rw [kw]; exact n2)
  obtain ⟨_, k1, v1⟩ := h.1 pa hp0
  obtain ⟨_, k2, v2⟩ := h.1 wa hw0
  rw [kp] at k1
  rw [kw] at k2
  rw [v2 p (by rw [← k2, inM_row (j' := 0) (by omega)]; exact m2)] at hne
  have v1 : ∀ j, sV σ1 pa j = sV σ pa j := fun j => v1 j (by rw [← k1, inM_row (j' := 0) (by omega)]; exact m1)
  obtain ⟨q1, q2, q3, q4⟩ := hJ.2 pa wa hp0 hw0 k1.symm k2.symm p hlt hne
  rw [v1 p]
  exact ⟨q1, q2, q3, fun d d1 d2 => by rw [v1]; exact q4 d d1 d2⟩
section CL
variable {X : CT} {rw : Nat → Prop} {Z0 : Nat → Prop} {σ0 : ps} {vs : List Value} {Z : Nat → Prop} {ρ : Nat → Value} {α : AS} {lv : LV} {st : List Value} {σ : ps}
theorem getD_map {as : List Nat} {i : Nat} (hi : i < as.length) : (as.map ρ).getD i .null = ρ (as.getD i 0) := by
  rw [List.getD_eq_getElem?_getD, List.getD_eq_getElem?_getD, List.getElem?_map, List.getElem?_eq_getElem hi]
  rfl
theorem getD_app {as l : List Nat} {i : Nat} (hi : i < as.length) : (as ++ l).getD i 0 = as.getD i 0 := by
  rw [List.getD_eq_getElem?_getD, List.getD_eq_getElem?_getD, List.getElem?_append_left hi]
theorem getD_mem {as : List Nat} {i : Nat} (hi : i < as.length) : as.getD i 0 ∈ as := by
  rw [List.getD_eq_getElem?_getD, List.getElem?_eq_getElem hi]
  exact List.getElem_mem hi
/-- symbols found by what fields hold -/
theorem asg_ok (hw : wfB α = true) (h : G Z ρ α lv st σ) : ∀ (ch : List CH) (as0 as : List Nat), asg α as0 ch = some as → (∀ s ∈ as0, s < α.1.length) → (∃ l, as = as0 ++ l) ∧ (∀ s ∈ as, s < α.1.length) ∧ ∀ c ∈ ch, chOK (fun i => (as.map ρ).getD i .null) σ c := by
  intro ch
  induction ch with
  | nil =>
    intro as0 as ha hs
    cases ha
    exact ⟨⟨[], by simp⟩, hs, fun c hc => by cases hc⟩
  | cons c r ih =>
    intro as0 as ha hs
    unfold asg at ha
    split at ha
    · rename_i hc
      simp only [Bool.and_eq_true, Bool.or_eq_true, decide_eq_true_eq, beq_iff_eq] at hc
      obtain ⟨hc1, hc2⟩ := hc
      split at ha
      · cases ha
      · rename_i s hs1
        have hso : as0.getD c.1 0 < α.1.length := hs _ (getD_mem hc1)
        -- what was found
        have hsl : s < α.1.length := by
          split at hs1
          · exact (wf_ch hw _ (clk_mem hs1)).2.1
          · exact (wf_ch hw _ (clk_mem hs1)).2.1
        have fin : ∀ l, (∃ l', as = as0 ++ l') → c.2.2.2 < as.length → as.getD c.2.2.2 0 = s → (as = as0 ++ l → True) → chOK (fun i => (as.map ρ).getD i .null) σ c := by
          intro l hpre hv hvs _
          obtain ⟨l', e'⟩ := hpre
          have ho : as.getD c.1 0 = as0.getD c.1 0 := by rw [e']; exact getD_app hc1
          have lo : c.1 < as.length := by rw [e', List.length_append]; omega
          have hval : (as.map ρ).getD c.2.2.2 .null = ρ s := by rw [getD_map hv, hvs]
          have hobj : (as.map ρ).getD c.1 .null = ρ (as0.getD c.1 0) := by rw [getD_map lo, ho]
          rcases hc2 with t0 | ⟨t1, hx, hxt⟩
          · rw [if_pos t0] at hs1
            have q := h.2.2.2.1 _ (clk_mem hs1)
            rcases q with ⟨t, _⟩ | ⟨a, ea, q⟩
            · cases t
            · refine Or.inr ⟨a, hobj.trans ea, Or.inl ⟨t0, ?_⟩⟩
              rcases q with ⟨_, q⟩ | ⟨t, _⟩
              · exact q.trans hval.symm
              · cases t
          · rw [if_neg (by omega)] at hs1
            obtain ⟨w, ew, b1, b2, _⟩ := h.int hxt
            have hxl : c.2.2.1.toNat < as.length := by rw [e', List.length_append]; omega
            have hix : (as.map ρ).getD c.2.2.1.toNat .null = .int w := by rw [getD_map hxl, e', getD_app hx]; exact ew
            have q := h.2.2.2.1 _ (clk_mem hs1)
            unfold ikey at q
            split at q
            · rename_i hcs
              unfold aCst at hcs
              rw [decide_eq_true_eq] at hcs
              rcases q with ⟨t, _⟩ | ⟨a, ea, q⟩
              · cases t
              · refine Or.inr ⟨a, hobj.trans ea, Or.inr ⟨t1, w, hix, ?_⟩⟩
                rcases q with ⟨_, q⟩ | ⟨t, _⟩
                · have ej : w.toNatClampNeg = (eg α (as0.getD c.2.2.1.toNat 0)).1.2.1.toNat := by
                    show w.toInt.toNat = _
                    rw [show w.toInt = (eg α (as0.getD c.2.2.1.toNat 0)).1.2.1 by omega]
                  rw [ej]
                  exact q.trans hval.symm
                · cases t
            · rcases q with ⟨t, _⟩ | ⟨a, ea, q⟩
              · cases t
              · refine Or.inr ⟨a, hobj.trans ea, Or.inr ⟨t1, w, hix, ?_⟩⟩
                rcases q with ⟨t, _⟩ | ⟨_, w', ew', q⟩
                · cases t
                · simp only [Int.toNat_natCast] at ew'
                  rw [ew] at ew'
                  cases ew'
                  exact q.trans hval.symm
        split at ha
        · rename_i hl
          obtain ⟨⟨l, e⟩, h2, h3⟩ := ih (as0 ++ [s]) as ha (fun q hq => by
            rcases List.mem_append.mp hq with hq | hq
            · exact hs q hq
            · rw [List.mem_singleton] at hq; subst hq; exact hsl)
          refine ⟨⟨s :: l, by rw [e]; simp⟩, h2, fun c' hc' => ?_⟩
          rcases List.mem_cons.mp hc' with rfl | hc'
          · refine fin [] ⟨s :: l, by rw [e]; simp⟩ ?_ ?_ (fun _ => trivial)
            · rw [e, hl]; simp
            · rw [e, hl, List.getD_eq_getElem?_getD]; simp
          · exact h3 c' hc'
        · split at ha
          · rename_i hl
            obtain ⟨⟨l, e⟩, h2, h3⟩ := ih as0 as ha hs
            refine ⟨⟨l, e⟩, h2, fun c' hc' => ?_⟩
            rcases List.mem_cons.mp hc' with rfl | hc'
            · refine fin [] ⟨l, e⟩ ?_ ?_ (fun _ => trivial)
              · rw [e, List.length_append]; omega
              · rw [e, getD_app hl.1]; exact hl.2
            · exact h3 c' hc'
          · cases ha
    · cases ha
theorem asle_ok (h : G Z ρ α lv st σ) {as : List Nat} {ts : List AV} (hs : ∀ s ∈ as, s < α.1.length) (ha : asle α as ts = true) : as.length = ts.length ∧ ∀ (i : Nat) (t : AV) (v : Value), ts[i]? = some t → (as.map ρ)[i]? = some v → okA Z (sL σ) (sK σ) t v := by
  unfold asle at ha
  rw [Bool.and_eq_true, decide_eq_true_eq, List.all_eq_true] at ha
  refine ⟨ha.1, fun i t v ht hv => ?_⟩
  have hi := (List.getElem?_eq_some_iff.mp ht).1
  have q := ha.2 i (List.mem_range.mpr hi)
  rw [List.getElem?_map, List.getElem?_eq_getElem (by omega)] at hv
  have ev : ρ (as.getD i 0) = v := by
    rw [List.getD_eq_getElem?_getD, List.getElem?_eq_getElem (by omega)]
    exact Option.some.inj hv
  have et : ts.getD i aNull = t := by
    rw [List.getD_eq_getElem?_getD, ht]
    rfl
  rw [et] at q
  have hl := hs _ (getD_mem (i := i) (as := as) (by omega))
  rw [← ev]
  exact aLe_ok q (h.1 _ _ (eg_get hl)).1
end CL
