def Z37 (σ : ps) : Prop := ∀ a ∈ sL σ, sK σ a = 3 → sV σ a 7 = .int 0
def zq (q : PI) : Bool := !(q.1 == 42) || decide (14 ≤ q.2.2.1.toNat)
def ZK (σ σ' : ps) : Prop := Kp 12 0 σ σ' ∧ (Z37 σ → Z37 σ')
theorem ZK.rf {σ : ps} (hL : ∀ a ∈ sL σ, a < σ.1) : ZK σ σ := ⟨Kp.rf hL, fun h => h⟩
theorem ZK.tr {σ σ1 σ2 : ps} (h1 : ZK σ σ1) (h2 : ZK σ1 σ2) : ZK σ σ2 := ⟨h1.1.tr h2.1, fun h => h2.2 (h1.2 h)⟩
theorem pst_nw {q : PI} {lv lv' : LV} {st st' : List Value} {σ σ' : ps} {pc' : Nat} (hz : zq q = true) (h : pst q lv st σ = some (pc', lv', st', σ')) {a : Nat} (hm : ¬ a ∈ sL σ) (ha : a ∈ sL σ') (hk : sK σ' a = 3) : sV σ' a 7 = .int 0 := by
  by_cases hp : q.1 ∈ pureL
  · rw [pst_pure hp h] at ha; exact absurd ha hm
  obtain ⟨op, nx, a', b, ts⟩ := q
  have ho : op ∈ pureL ∨ op = 23 ∨ op = 28 ∨ op = 29 ∨ op = 30 ∨ op = 31 ∨ op = 41 ∨ op = 42 := by
    unfold pst at h
    split at h
    all_goals first | (cases h; done) | (rename_i e; simp only at e; subst e; simp [pureL])
  rcases ho with e | e | e | e | e | e | e | e
  · exact absurd e hp
  · subst e
    have h : f_put (23, nx, a', b, ts) lv st σ = some (pc', lv', st', σ') := h
    unfold f_put at h
    repeat' split at h
    all_goals first | (cases h; done) | (cases h; exact absurd ha hm)
  · subst e
    have h : f_iast (28, nx, a', b, ts) lv st σ = some (pc', lv', st', σ') := h
    unfold f_iast at h
    repeat' split at h
    all_goals first | (cases h; done) | (cases h; exact absurd ha hm)
  · subst e
    have h : f_bast (29, nx, a', b, ts) lv st σ = some (pc', lv', st', σ') := h
    unfold f_bast at h
    repeat' split at h
    all_goals first | (cases h; done) | (cases h; exact absurd ha hm)
  · subst e
    have h : f_last (30, nx, a', b, ts) lv st σ = some (pc', lv', st', σ') := h
    unfold f_last at h
    repeat' split at h
    all_goals first | (cases h; done) | (cases h; exact absurd ha hm)
  · subst e
    have h : f_aast (31, nx, a', b, ts) lv st σ = some (pc', lv', st', σ') := h
    unfold f_aast at h
    repeat' split at h
    all_goals first | (cases h; done) | (cases h; exact absurd ha hm)
  · subst e
    have h : f_new (41, nx, a', b, ts) lv st σ = some (pc', lv', st', σ') := h
    unfold f_new at h
    cases h
    have ha : a ∈ sL σ ++ [σ.1] := ha
    rcases List.mem_append.mp ha with m | m
    · exact absurd m hm
    · rw [List.mem_singleton] at m
      subst m
      have hk : a'.toNat = 3 := (sNew_selfK σ _ _ _).symm.trans hk
      show sV (sNew σ a'.toNat (nF a'.toNat) (dfv a'.toNat)) σ.1 7 = _
      rw [sNew_selfV, hk]
      decide +kernel
  · subst e
    have h : f_newa (42, nx, a', b, ts) lv st σ = some (pc', lv', st', σ') := h
    unfold f_newa at h
    repeat' split at h
    all_goals first
      | (cases h; done)
      | (cases h
         exfalso
         have ha : a ∈ sL σ ++ [σ.1] := ha
         rcases List.mem_append.mp ha with m | m
         · exact absurd m hm
         · rw [List.mem_singleton] at m
           subst m
           have hk : a'.toNat = 3 := (sNew_selfK σ _ _ _).symm.trans hk
           unfold zq at hz
           simp [hk] at hz)
theorem pst_zk {M : List Nat} {lo : Nat} {q : PI} {lv lv' : LV} {st st' : List Value} {σ σ' : ps} {pc' : Nat} (hL : ∀ a ∈ sL σ, a < σ.1) (h1 : keepQ M 3 7 lo q = true) (h2 : keepQ M 12 0 lo q = true) (hz : zq q = true) (h : pst q lv st σ = some (pc', lv', st', σ')) : ZK σ σ' := by
  have k7 := pst_kp (by decide) hL h1 h
  have k0 := pst_kp (by decide) hL h2 h
  refine ⟨k0, fun z a ha hk => ?_⟩
  by_cases hm : a ∈ sL σ
  · have hk0 : sK σ a = 3 := (k7.1.1 a hm).2.symm.trans hk
    rw [k7.2 a hm hk0]; exact z a hm hk0
  · exact pst_nw hz h hm ha hk
def zchk (mi lo : Nat) : Bool := (pg mi).all (fun e => decide (e.1 < lo) || zq e.2)
theorem zchk_q {mi lo pc : Nat} {q : PI} (hm : mi < 203) (h : zchk mi lo = true) (hl : lo ≤ pc) (hq : pins mi pc = some q) : zq q = true := by
  unfold pins at hq
  rw [if_pos hm] at hq
  unfold zchk at h
  generalize pg mi = l at h hq
  induction l with
  | nil => cases hq
  | cons e r ih =>
    rw [List.all_cons, Bool.and_eq_true] at h
    obtain ⟨j, w⟩ := e
    unfold plkI at hq
    split at hq
    · rename_i e
      cases hq
      have e : j = pc := e
      have h1 := h.1
      simp only [e, decide_eq_false (show ¬ pc < lo by omega), Bool.false_or] at h1
      exact h1
    · exact ih h.2 hq
def zM (M : List Nat) : Prop := ∀ c ∈ M, c < 203 ∧ kchk M 3 7 c 0 = true ∧ kchk M 12 0 c 0 = true ∧ zchk c 0 = true
theorem prun_zk {M : List Nat} (hM : zM M) : ∀ (n mi lo : Nat), mi < 203 → (kchk M 3 7 mi lo = true ∧ kchk M 12 0 mi lo = true ∧ zchk mi lo = true) → ∀ (pc : Nat) (lv : LV) (st : List Value) (σ : ps) (x : Option Value × ps), lo ≤ pc → (∀ a ∈ sL σ, a < σ.1) → prun n mi pc lv st σ = some x → ZK σ x.2 := by
  intro n
  induction n with
  | zero => intro mi lo _ _ pc lv st σ x _ _ h; cases h
  | succ n ih =>
    intro mi lo hm hc pc lv st σ x hl hL h
    unfold prun at h
    cases hp : pins mi pc with
    | none => rw [hp] at h; cases h
    | some q =>
      rw [hp] at h
      have hq := kchk_q hm hc.1 hl hp
      have hq2 := kchk_q hm hc.2.1 hl hp
      have hnq := zchk_q hm hc.2.2 hl hp
      have hq0 := hq
      unfold keepQ at hq
      rw [Bool.and_eq_true, Bool.and_eq_true, Bool.and_eq_true] at hq
      obtain ⟨-, h2, h3, h4⟩ := hq
      simp only at h
      by_cases e36 : q.1 = 36
      · rw [if_pos e36] at h
        have h3 : lo ≤ q.2.1 := by
          rw [e36] at h3
          simp only [Bool.or_eq_true, decide_eq_true_eq, beq_iff_eq] at h3
          omega
        have hcm : q.2.2.1.toNat ∈ M := by
          rw [e36] at h2
          simp only [beq_self_eq_true, Bool.not_true, Bool.false_or] at h2
          exact List.contains_iff_mem.mp h2
        split at h
        · split at h
          · cases h
          · rename_i r σ1 hr
            have s1 := ih _ 0 (hM _ hcm).1 (hM _ hcm).2 _ _ _ _ _ (Nat.zero_le _) hL hr
            exact s1.tr (ih _ lo hm hc _ _ _ _ _ h3 s1.1.1.2 h)
        · cases h
      · rw [if_neg e36] at h
        split at h
        · cases h; exact ZK.rf hL
        · rename_i hr
          split at h
          · cases h
          · rename_i pc' lv' st' σ' hs
            have s1 := pst_zk hL hq0 hq2 hnq hs
            refine s1.tr (ih _ lo hm hc pc' _ _ _ _ ?_ s1.1.1.2 h)
            obtain ⟨n1, n2, -, -⟩ := pst_nx hs
            have hnr : ¬ (37 ≤ q.1 ∧ q.1 ≤ 40) := by
              intro e
              obtain ⟨op, nx, a, b, ts⟩ := q
              have e : 37 ≤ op ∧ op ≤ 40 := e
              have : op = 37 ∨ op = 38 ∨ op = 39 ∨ op = 40 := by omega
              rcases this with e | e | e | e <;> subst e <;> cases hs
            simp only [Bool.or_eq_true, decide_eq_true_eq, beq_iff_eq] at h3
            cases hb : brL q with
            | false =>
              rw [n1 hb]
              rcases h3 with h3 | h3 | h3
              · exact absurd h3 hnr
              · exfalso
                unfold brL at hb
                rw [h3] at hb
                simp at hb
              · exact h3
            | true =>
              rw [hb] at h4
              simp only [Bool.not_true, Bool.false_or, Bool.and_eq_true, decide_eq_true_eq] at h4
              rcases n2 hb with e | e | e
              · have h5 := h4.2
                rw [e] at h5
                simp only [beq_self_eq_true, Bool.true_and, Bool.not_eq_true', decide_eq_false_iff_not] at h5
                omega
              · rw [e]
                rcases h3 with h3 | h3 | h3
                · exact absurd h3 hnr
                · obtain ⟨op, nx, a, b, ts⟩ := q
                  have h3 : op = 20 := h3
                  subst h3
                  cases hs
                  have e : b.toNat = nx := e
                  have h4 : lo ≤ b.toNat := h4.1
                  show lo ≤ nx
                  omega
                · exact h3
              · rw [e]; exact h4.1
theorem prun_rgz {mi out : Nat} {R kl M : List Nat} (hM : zM M) (hm : mi < 203) (hnn : (pg mi).all (fun e => !(R.contains e.1) || (keepQ M 3 7 0 e.2 && (keepQ M 12 0 0 e.2 && zq e.2))) = true) (hall : (pg mi).all (fun e => !(R.contains e.1) || regQ R out kl e.2) = true) : ∀ (n pc : Nat) (lv : LV) (st : List Value) (σ : ps) (x : Option Value × ps), R.contains pc = true → (∀ a ∈ sL σ, a < σ.1) → prun n mi pc lv st σ = some x → ∃ m lv' st' σ', m ≤ n ∧ (∀ i ∈ kl, plk lv' i = plk lv i) ∧ ZK σ σ' ∧ prun m mi out lv' st' σ' = some x := by
  intro n
  induction n with
  | zero => intro pc lv st σ x _ _ h; cases h
  | succ n ih =>
    intro pc lv st σ x hR hL h
    unfold prun at h
    cases hp : pins mi pc with
    | none => rw [hp] at h; cases h
    | some q =>
      rw [hp] at h
      have hq : regQ R out kl q = true := by
        unfold pins at hp
        rw [if_pos hm] at hp
        exact plkI_allR _ hall pc q hR hp
      have hnq : (keepQ M 3 7 0 q && (keepQ M 12 0 0 q && zq q)) = true := by
        unfold pins at hp
        rw [if_pos hm] at hp
        exact plkI_allR (f := fun q => keepQ M 3 7 0 q && (keepQ M 12 0 0 q && zq q)) _ hnn pc q hR hp
      rw [Bool.and_eq_true, Bool.and_eq_true] at hnq
      unfold regQ at hq
      rw [Bool.and_eq_true, Bool.and_eq_true, Bool.and_eq_true] at hq
      obtain ⟨h1, h2, h3, h4⟩ := hq
      have go : ∀ (pc' : Nat) (lv' : LV) (st' : List Value) (σ' : ps), (R.contains pc' || pc' == out) = true → (∀ i ∈ kl, plk lv' i = plk lv i) → ZK σ σ' → prun n mi pc' lv' st' σ' = some x → ∃ m lv' st' σ', m ≤ n + 1 ∧ (∀ i ∈ kl, plk lv' i = plk lv i) ∧ ZK σ σ' ∧ prun m mi out lv' st' σ' = some x := by
        intro pc' lv' st' σ' hc hlv hS h
        rw [Bool.or_eq_true, beq_iff_eq] at hc
        rcases hc with hc | hc
        · obtain ⟨m, l2, s2, σ2, a1, a2, a3, a4⟩ := ih pc' lv' st' σ' x hc hS.1.1.2 h
          exact ⟨m, l2, s2, σ2, by omega, fun i hi => (a2 i hi).trans (hlv i hi), hS.tr a3, a4⟩
        · subst hc; exact ⟨n, lv', st', σ', by omega, hlv, hS, h⟩
      simp only at h
      by_cases e36 : q.1 = 36
      · rw [if_pos e36] at h
        have hcm : q.2.2.1.toNat ∈ M := by
          have h9 := hnq.1
          unfold keepQ at h9
          rw [e36] at h9
          simp only [beq_self_eq_true, Bool.not_true, Bool.false_or, Bool.and_eq_true] at h9
          exact List.contains_iff_mem.mp h9.2.1
        have h1 : (R.contains q.2.1 || q.2.1 == out) = true := by
          rw [Bool.or_eq_true] at h1
          rcases h1 with h1 | h1
          · exact h1
          · rw [e36] at h1; exact absurd h1 (by decide)
        split at h
        · split at h
          · cases h
          · rename_i r σ1 hr
            exact go _ _ _ _ h1 (fun _ _ => rfl) (prun_zk hM _ _ 0 (hM _ hcm).1 (hM _ hcm).2 _ _ _ _ _ (Nat.zero_le _) hL hr) h
        · cases h
      · rw [if_neg e36] at h
        split at h
        · rename_i r hr
          exfalso
          rw [Bool.not_eq_true', decide_eq_false_iff_not] at h3
          rw [pret_none h3] at hr
          cases hr
        · split at h
          · cases h
          · rename_i pc' lv' st' σ' hs
            obtain ⟨n1, n2, n3, n4⟩ := pst_nx hs
            refine go pc' lv' st' σ' ?_ ?_ (pst_zk hL hnq.1 hnq.2.1 hnq.2.2 hs) h
            · cases hb : brL q with
              | false =>
                rw [n1 hb]
                rw [Bool.or_eq_true] at h1
                rcases h1 with h1 | h1
                · exact h1
                · exfalso
                  unfold brL at hb
                  simp only [Bool.or_eq_false_iff] at hb
                  rw [hb.2.2.2.2.1] at h1
                  cases h1
              | true =>
                rw [hb] at h2
                simp only [Bool.not_true, Bool.false_or, Bool.and_eq_true, Bool.not_eq_true', beq_eq_false_iff_ne] at h2
                rcases n2 hb with e | e | e
                · exact absurd e h2.2
                · rw [e]
                  rw [Bool.or_eq_true] at h1
                  rcases h1 with h1 | h1
                  · exact h1
                  · have e20 : q.1 = 20 := by rw [beq_iff_eq] at h1; exact h1
                    obtain ⟨op, nx, a, b, ts⟩ := q
                    have e20 : op = 20 := e20
                    subst e20
                    cases hs
                    have e : b.toNat = nx := e
                    have h2 := h2.1
                    show (R.contains nx || nx == out) = true
                    rw [← e]
                    exact h2
                · rw [e]; exact h2.1
            · intro i hi
              cases hb : stL q with
              | false => rw [n3 hb]
              | true =>
                rw [hb] at h4
                simp only [Bool.not_true, Bool.false_or] at h4
                have := List.all_eq_true.mp h4 i hi
                simp only [Bool.and_eq_true, Bool.not_eq_true', beq_eq_false_iff_ne] at this
                obtain ⟨v, hv | ⟨_, hv⟩⟩ := n4 hb
                · rw [hv]; exact plk_pst1 this.1 this.2.1
                · rw [hv]; exact plk_pst2 this.1 this.2.1 this.2.2
theorem z_M : zM [0, 7, 15, 35, 44, 55, 60, 76, 77, 78, 79] := by unfold zM; decide +kernel
theorem pc_x3 {n a : Nat} {k : Int32} {σ : ps} {y : Option Value × ps} (hL : ∀ a ∈ sL σ, a < σ.1) (run : prun n 25 0 (lv_args 0 [.ref a, .int k]) [] σ = some y) (z : Z37 σ) : Z37 y.2 := by
  have h : prun n 25 0 [(0, .ref a), (1, .int k)] [] σ = some y := run
  obtain ⟨k0, lv', st', σ', _, hkl, S, h⟩ := prun_rgz (mi := 25) (out := 61) (R := [0, 1, 4, 5, 8, 9, 12, 15, 16, 19, 20, 23, 26, 27, 28, 31, 34, 35, 36, 39, 42, 43, 44, 47, 50, 51, 54, 55, 58]) (kl := [0]) z_M (by decide) (by decide +kernel) (by decide +kernel) _ _ _ _ _ _ (by decide) hL h
  have e0 : plk lv' 0 = some (.ref a) := (hkl 0 (by decide)).trans rfl
  obtain ⟨n1, l1, h⟩ := v_al h (by decide +kernel : pins 25 61 = some (5, 62, 0, 0, [])) (v := a) e0
  obtain ⟨n2, w, l2, ⟨e, i⟩, h⟩ := u_ic h (by decide +kernel : pins 25 62 = some (0, 63, 0, 0, [])) (by decide)
  obtain ⟨n3, l3, h⟩ := v_put h (by decide +kernel : pins 25 63 = some (23, 66, 3, 7, []))
  have zp : Z37 (sPut σ' a (7 : Int).toNat (.int w)) := by
    intro b hb hk
    by_cases eb : b = a
    · rw [eb, sPut_self, e]; rfl
    · rw [sPut_ne _ _ eb]; exact S.2 z b hb hk
  have q := prun_zk z_M n3 25 66 (by decide) ⟨by decide +kernel, by decide +kernel, by decide +kernel⟩ 66 _ _ (sPut σ' a (7 : Int).toNat (.int w)) _ (by decide) S.1.1.2 h
  exact q.2 zp
theorem plk_p1r {i j : Nat} {v w : Value} (hv : v.category = 1) (hij : ¬ i = j) : ∀ (lv : LV), plk lv i = some v → plk (pst1 lv j w) i = some v := by
  intro lv h
  unfold pst1
  conv => lhs; unfold plk
  rw [if_neg (fun e => hij e.symm)]
  induction lv with
  | nil => cases h
  | cons e r ih =>
    obtain ⟨k, u⟩ := e
    unfold plk at h
    split at h
    · rename_i e1
      have e1 : k = i := e1
      subst e1
      cases h
      rw [List.filter_cons_of_pos (by simp [hij, hv])]
      unfold plk
      rw [if_pos rfl]
    · rename_i e1
      have e1 : ¬ k = i := e1
      by_cases hf : (fun q : Nat × Value => !(q.1 == j) && !(q.1 + 1 == j && q.2.category == 2)) (k, u) = true
      · rw [List.filter_cons_of_pos (p := fun q : Nat × Value => !(q.1 == j) && !(q.1 + 1 == j && q.2.category == 2)) hf]
        unfold plk
        rw [if_neg e1]
        exact ih h
      · rw [List.filter_cons_of_neg (p := fun q : Nat × Value => !(q.1 == j) && !(q.1 + 1 == j && q.2.category == 2)) hf]
        exact ih h
theorem plk_p1s {j : Nat} {w : Value} (lv : LV) : plk (pst1 lv j w) j = some w := by
  unfold pst1 plk
  rw [if_pos rfl]
theorem dfv3 : ∀ c ∈ cCh tC16, c.1 = 0 ∧ c.2.1 = 0 ∧ ((c.2.2.2 = 2 ∧ dfv 3 c.2.2.1.toNat = .int 0) ∨ (c.2.2.2 = 3 ∧ dfv 3 c.2.2.1.toNat = .null)) := by decide +kernel
/-- the class's row of hosts, c of them made -/
def HI (x hr : Nat) (c : Int) (σ : ps) : Prop := (x ∈ sL σ ∧ sK σ x = 12 ∧ sV σ x 0 = .ref hr) ∧ (hr ∈ sL σ ∧ sK σ hr = 25) ∧ (∀ i : Nat, (i : Int) < c → ∃ a : Nat, sV σ hr i = .ref a ∧ a ∈ sL σ ∧ sK σ a = 3) ∧ (∀ (i k a : Nat), (i : Int) < c → (k : Int) < c → sV σ hr i = .ref a → sV σ hr k = .ref a → i = k) ∧ Z37 σ ∧ ∀ a ∈ sL σ, a < σ.1
theorem x3_run {n a : Nat} {c : Int32} {σ : ps} {r : Option Value} {σ1 : ps} (hL : ∀ a ∈ sL σ, a < σ.1) (am : a ∈ sL σ) (ak : sK σ a = 3) (av : sV σ a = dfv 3) (run : prun n 25 0 (lv_args 0 [.ref a, .int c]) [] σ = some (r, σ1)) : r = none ∧ Sl σ σ1 ∧ ∀ b ∈ sL σ, ∀ j, inM (cMod tC16) (sK σ b) j = false → sV σ1 b j = sV σ b j := by
  obtain ⟨n', r', σ', run', Z, T', L', R, S, alt⟩ := tV16 (fun _ => False) σ [.ref a, .int c, .int 0, .null] (fun a h => h.elim) hL (ent4 ⟨okraw am (fun h => h) ak, okA.any c, oki0, okA.nul, trivial⟩ (fun q hq => by
    obtain ⟨c1, c2, c3⟩ := dfv3 q hq
    refine Or.inr ⟨a, by rw [c1]; rfl, Or.inl ⟨c2, ?_⟩⟩
    rw [av]
    rcases c3 with ⟨c3, c4⟩ | ⟨c3, c4⟩
    · rw [c4, c3]; rfl
    · rw [c4, c3]; rfl) (by decide)) (fun h => absurd rfl h)
  have run' : prun n' 25 0 (lv_args 0 [.ref a, .int c]) [] σ = some (r', σ') := run'
  have e := prun_det run' run
  cases e
  refine ⟨?_, ⟨fun b hb => ⟨(R.1 b hb).1, (R.1 b hb).2.1⟩, L'⟩, fun b hb j hj => (R.1 b hb).2.2 j hj⟩
  obtain ⟨q, h1, h2⟩ := alt
  have h1 : q ∈ [([(2,3,0,0,0),(0,(-2147483648),2147483647,0,15),(0,0,0,0,0),(5,0,0,0,0)],[],[])] := h1
  rw [List.mem_singleton] at h1
  subst h1
  rcases h2.2.2.1 with ⟨_, q⟩ | ⟨_, _, q, _⟩
  · exact q
  · cases q
theorem pc_hl {x hr : Nat} {y : Option Value × ps} : ∀ (n : Nat) (c : Int32) (lv : LV) (st : List Value) (σ : ps), plk lv 0 = some (.ref x) → plk lv 1 = some (.int c) → (0 ≤ c.toInt ∧ c.toInt ≤ 8) → HI x hr c.toInt σ → prun n 86 82 lv st σ = some y → HI x hr 8 y.2 := by
  intro n
  induction n using Nat.strongRecOn with
  | ind n ih =>
    intro c lv st σ p0 p1 hc I h
    obtain ⟨⟨i1, i2, i3⟩, ⟨i4, i5⟩, i6, i7, i8, hL⟩ := id I
    obtain ⟨n1, l1, h⟩ := v_il h (by decide +kernel : pins 86 82 = some (3, 83, 1, 0, [])) (v := c) p1
    obtain ⟨n2, w83, l2, ⟨e83, i83⟩, h⟩ := u_ic h (by decide +kernel : pins 86 83 = some (0, 85, 8, 0, [])) (by decide)
    obtain ⟨n3, l3, ⟨c85, h⟩ | ⟨c85, h⟩⟩ := u_ic3 h (by decide +kernel : pins 86 85 = some (17, 88, 3, ((108 : Nat) : Int), []))
    · have ex := ret37_any h (by decide +kernel : pins 86 108 = some (37, 109, 0, 0, []))
      rw [ex]
      have : c.toInt = 8 := by omega
      rw [← this]
      exact I
    · have cn : (c.toNatClampNeg : Int) = c.toInt := n_clamp hc.1
      obtain ⟨n4, l4, h⟩ := v_al h (by decide +kernel : pins 86 88 = some (5, 89, 0, 0, [])) (v := x) p0
      obtain ⟨n5, l5, _, h⟩ := v_get h (by decide +kernel : pins 86 89 = some (22, 92, 12, 0, []))
      rw [show sV σ x (0 : Int).toNat = .ref hr from i3] at h
      obtain ⟨n6, l6, h⟩ := v_il h (by decide +kernel : pins 86 92 = some (3, 93, 1, 0, [])) (v := c) p1
      obtain ⟨n7, l7, h⟩ := v_new h (by decide +kernel : pins 86 93 = some (41, 96, 3, 0, []))
      obtain ⟨n8, l8, h⟩ := v_dup h (by decide +kernel : pins 86 96 = some (34, 97, 0, 0, []))
      obtain ⟨n9, l9, h⟩ := v_il h (by decide +kernel : pins 86 97 = some (3, 98, 1, 0, [])) (v := c) p1
      obtain ⟨n10, r98, s98, l10, h98, h⟩ := pinv_call h (by decide +kernel : pins 86 98 = some (36, 101, 25, 2, [2]))
      have h98 : prun n10 25 0 (lv_args 0 [.ref σ.1, .int c]) [] (sNew σ 3 (nF 3) (dfv 3)) = some (r98, s98) := h98
      have S0 : Sl σ (sNew σ 3 (nF 3) (dfv 3)) := stp.sl (Or.inr (Or.inr ⟨_, _, _, rfl⟩)) hL
      have me : σ.1 ∈ sL (sNew σ 3 (nF 3) (dfv 3)) := List.mem_append_right _ (List.mem_singleton.mpr rfl)
      obtain ⟨er, S1, fr⟩ := x3_run S0.2 me (sNew_selfK σ 3 (nF 3) (dfv 3)) (sNew_selfV σ 3 (nF 3) (dfv 3)) h98
      have z0 : Z37 (sNew σ 3 (nF 3) (dfv 3)) := by
        intro a ha hk
        have ha : a ∈ sL σ ++ [σ.1] := ha
        rcases List.mem_append.mp ha with m | m
        · have ne : ¬ a = σ.1 := fun e => by have := hL a m; omega
          rw [sNew_neV _ _ _ ne]
          rw [sNew_neK _ _ _ ne] at hk
          exact i8 a m hk
        · rw [List.mem_singleton] at m
          rw [m, sNew_selfV]
          decide +kernel
      have z1 := pc_x3 S0.2 h98 z0
      subst er
      have h : prun n10 86 101 lv (.ref σ.1 :: .int c :: .ref hr :: st) s98 = some y := h
      obtain ⟨n11, l11, h⟩ := v_aast h (by decide +kernel : pins 86 101 = some (31, 102, 0, 0, []))
      obtain ⟨n12, l12, h⟩ := v_inc h (by decide +kernel : pins 86 102 = some (9, 105, 1, 1, [])) (v := c) p1
      obtain ⟨n13, l13, h⟩ := v_go h (by decide +kernel : pins 86 105 = some (20, 108, 0, ((82 : Nat) : Int), []))
      have xl := hL x i1
      have hl := hL hr i4
      have q : (c + Int32.ofInt 1).toInt = c.toInt + 1 := by
        have z : (Int32.ofInt 1).toInt = 1 := by decide
        rw [n_add (by rw [z]; omega) (by rw [z]; omega), z]
      have xh : ¬ x = hr := fun e => by rw [e, i5] at i2; revert i2; decide
      have vx : sV s98 x 0 = .ref hr := by
        rw [fr x (S0.1 x i1).1 0 (by rw [(S0.1 x i1).2, i2]; decide +kernel), sNew_neV _ _ _ (by omega)]
        exact i3
      have vh : ∀ j, sV s98 hr j = sV σ hr j := fun j => by
        rw [fr hr (S0.1 hr i4).1 j (by rw [(S0.1 hr i4).2, i5, inM_row (j' := 0) (by decide)]; decide +kernel), sNew_neV _ _ _ (by omega)]
      have mo : ∀ a ∈ sL σ, a ∈ sL s98 ∧ sK s98 a = sK σ a := fun a ha => ⟨(S1.1 a (S0.1 a ha).1).1, (S1.1 a (S0.1 a ha).1).2.trans (S0.1 a ha).2⟩
      have mn := S1.1 _ me
      have kn : sK s98 σ.1 = 3 := mn.2.trans (sNew_selfK σ 3 (nF 3) (dfv 3))
      have vp : ∀ j : Nat, sV (sPut s98 hr c.toNatClampNeg (.ref σ.1)) hr j = if j = c.toNatClampNeg then .ref σ.1 else sV σ hr j := fun j => by
        rw [sPut_self]
        simp only
        split
        · rfl
        · exact vh j
      refine ih n13 (by omega) (c + Int32.ofInt 1) _ st _ (plk_p1r rfl (by decide) lv p0) (plk_p1s lv) ⟨by omega, by omega⟩ ?_ h
      refine ⟨⟨(mo x i1).1, (mo x i1).2.trans i2, ?_⟩, ⟨(mo hr i4).1, (mo hr i4).2.trans i5⟩, fun i hi => ?_, fun i k a hi hk e1 e2 => ?_, ?_, S1.2⟩
      · rw [sPut_ne _ _ xh]; exact vx
      · rw [vp]
        by_cases e : i = c.toNatClampNeg
        · rw [if_pos e]; exact ⟨σ.1, rfl, mn.1, kn⟩
        · rw [if_neg e]
          obtain ⟨a, a1, a2, a3⟩ := i6 i (by omega)
          exact ⟨a, a1, (mo a a2).1, (mo a a2).2.trans a3⟩
      · have old : ∀ j : Nat, (j : Int) < c.toInt → ¬ sV σ hr j = .ref σ.1 := fun j hj e => by
          obtain ⟨a, a1, a2, _⟩ := i6 j hj
          rw [a1] at e
          cases e
          have := hL _ a2
          omega
        rw [vp] at e1 e2
        by_cases ei : i = c.toNatClampNeg
        · by_cases ek : k = c.toNatClampNeg
          · omega
          · rw [if_pos ei] at e1
            rw [if_neg ek] at e2
            cases e1
            exact absurd e2 (old k (by omega))
        · by_cases ek : k = c.toNatClampNeg
          · rw [if_neg ei] at e1
            rw [if_pos ek] at e2
            cases e2
            exact absurd e1 (old i (by omega))
          · rw [if_neg ei] at e1
            rw [if_neg ek] at e2
            exact i7 i k a (by omega) (by omega) e1 e2
      · intro a ha hk
        have ne : ¬ a = hr := fun e => by
          have hk : sK s98 a = 3 := hk
          rw [e, (mo hr i4).2, i5] at hk
          revert hk; decide
        rw [sPut_ne _ _ ne]
        exact z1 a ha hk
/-- behind the constructor -/
theorem pc_hosts {n x : Nat} {σ : ps} {y : Option Value × ps} (hL : ∀ a ∈ sL σ, a < σ.1) (hx : x ∈ sL σ) (hk : sK σ x = 12) (h0 : ∀ a ∈ sL σ, ¬ sK σ a = 3) (h : prun n 86 0 (lv_args 0 [.ref x]) [] σ = some y) : ∃ hr, HI x hr 8 y.2 := by
  have h : prun n 86 0 [(0, .ref x)] [] σ = some y := h
  obtain ⟨n1, l1, h⟩ := v_al h (by decide +kernel : pins 86 0 = some (5, 1, 0, 0, [])) (v := x) rfl
  obtain ⟨n2, l2, h⟩ := v_oinit h (by decide +kernel : pins 86 1 = some (45, 4, 0, 0, []))
  obtain ⟨n3, l3, h⟩ := v_al h (by decide +kernel : pins 86 4 = some (5, 5, 0, 0, [])) (v := x) rfl
  obtain ⟨n4, w5, l4, ⟨e5, i5⟩, h⟩ := u_ic h (by decide +kernel : pins 86 5 = some (0, 7, 8, 0, [])) (by decide)
  obtain ⟨n5, l5, h⟩ := v_newa h (by decide +kernel : pins 86 7 = some (42, 10, 25, 0, []))
  obtain ⟨n6, l6, h⟩ := v_put h (by decide +kernel : pins 86 10 = some (23, 13, 12, 0, []))
  have S0 : Sl σ (sNew σ (25 : Int).toNat (rk (25 : Int).toNat).2 (fun _ => rowV (rk (25 : Int).toNat).1)) := stp.sl (Or.inr (Or.inr ⟨_, _, _, rfl⟩)) hL
  have xl := hL x hx
  have me : σ.1 ∈ sL (sNew σ (25 : Int).toNat (rk (25 : Int).toNat).2 (fun _ => rowV (rk (25 : Int).toNat).1)) := List.mem_append_right _ (List.mem_singleton.mpr rfl)
  have km : sK (sNew σ (25 : Int).toNat (rk (25 : Int).toNat).2 (fun _ => rowV (rk (25 : Int).toNat).1)) σ.1 = 25 := sNew_selfK σ _ _ _
  have z0 : Z37 (sPut (sNew σ (25 : Int).toNat (rk (25 : Int).toNat).2 (fun _ => rowV (rk (25 : Int).toNat).1)) x (0 : Int).toNat (.ref σ.1)) := by
    intro a ha hka
    exfalso
    have hka : sK (sNew σ (25 : Int).toNat (rk (25 : Int).toNat).2 (fun _ => rowV (rk (25 : Int).toNat).1)) a = 3 := hka
    have ha : a ∈ sL σ ++ [σ.1] := ha
    rcases List.mem_append.mp ha with m | m
    · rw [(S0.1 a m).2] at hka; exact h0 a m hka
    · rw [List.mem_singleton.mp m, km] at hka; revert hka; decide
  obtain ⟨k0, lv', st', σ', _, hkl, S, h⟩ := prun_rgz (mi := 86) (out := 80) (R := [13, 14, 17, 18, 21, 24, 25, 28, 29, 32, 35, 36, 38, 40, 43, 44, 47, 50, 53, 54, 55, 58, 59, 60, 63, 64, 65, 68, 69, 72, 75, 76, 77]) (kl := [0]) z_M (by decide) (by decide +kernel) (by decide +kernel) _ _ _ _ _ _ (by decide) (show ∀ a ∈ sL (sPut (sNew σ (25 : Int).toNat (rk (25 : Int).toNat).2 (fun _ => rowV (rk (25 : Int).toNat).1)) x (0 : Int).toNat (.ref σ.1)), a < _ from S0.2) h
  have e0 : plk lv' 0 = some (.ref x) := (hkl 0 (by decide)).trans rfl
  obtain ⟨n7, w80, l7, ⟨e80, i80⟩, h⟩ := u_ic h (by decide +kernel : pins 86 80 = some (0, 81, 0, 0, [])) (by decide)
  obtain ⟨n8, l8, h⟩ := v_is h (by decide +kernel : pins 86 81 = some (6, 82, 1, 0, []))
  have mx := S.1.1.1 x (S0.1 x hx).1
  have mh := S.1.1.1 σ.1 me
  have kx : sK σ' x = 12 := mx.2.trans ((S0.1 x hx).2.trans hk)
  refine ⟨σ.1, pc_hl (hr := σ.1) n8 w80 _ st' σ' (plk_p1r rfl (by decide) lv' e0) (plk_p1s lv') ⟨by omega, by omega⟩ ⟨⟨mx.1, kx, ?_⟩, ⟨mh.1, mh.2.trans km⟩, fun i hi => by omega, fun i k a hi => by omega, S.2 z0, S.1.1.2⟩ h⟩
  rw [S.1.2 x (S0.1 x hx).1 ((S0.1 x hx).2.trans hk), sPut_self]
  rfl
