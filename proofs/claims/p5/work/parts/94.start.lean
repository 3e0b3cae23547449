/-- no cell of kind 26 is made -/
def Nk (σ σ' : ps) : Prop := Sl σ σ' ∧ ∀ a ∈ sL σ', sK σ' a = 26 → a ∈ sL σ
theorem Nk.rf {σ : ps} (hL : ∀ a ∈ sL σ, a < σ.1) : Nk σ σ := ⟨Sl.rf hL, fun _ h _ => h⟩
theorem Nk.tr {σ σ1 σ2 : ps} (h1 : Nk σ σ1) (h2 : Nk σ1 σ2) : Nk σ σ2 := ⟨h1.1.tr h2.1, fun a ha hk => by
  have m := h2.2 a ha hk
  exact h1.2 a m (((h2.1.1 a m).2).symm.trans hk)⟩
theorem sPut_nk {σ : ps} {a j : Nat} {v : Value} (hL : ∀ a ∈ sL σ, a < σ.1) : Nk σ (sPut σ a j v) := ⟨⟨fun _ hb => ⟨hb, rfl⟩, hL⟩, fun _ h _ => h⟩
theorem sNew_nk {σ : ps} {k n : Nat} {f : Nat → Value} (hL : ∀ a ∈ sL σ, a < σ.1) (hk : ¬ k = 26) : Nk σ (sNew σ k n f) := by
  refine ⟨stp.sl (Or.inr (Or.inr ⟨k, n, f, rfl⟩)) hL, fun a ha h => ?_⟩
  have ha : a ∈ sL σ ++ [σ.1] := ha
  rcases List.mem_append.mp ha with m | m
  · exact m
  · rw [List.mem_singleton] at m
    rw [m, sNew_selfK] at h
    exact absurd h hk
def n26 (q : PI) : Bool := !((q.1 == 41 || q.1 == 42) && q.2.2.1.toNat == 26)
theorem pst_nk {q : PI} {lv lv' : LV} {st st' : List Value} {σ σ' : ps} {pc' : Nat} (hL : ∀ a ∈ sL σ, a < σ.1) (hq : n26 q = true) (h : pst q lv st σ = some (pc', lv', st', σ')) : Nk σ σ' := by
  by_cases hp : q.1 ∈ pureL
  · rw [pst_pure hp h]; exact Nk.rf hL
  obtain ⟨op, nx, a, b, ts⟩ := q
  have ho : op ∈ pureL ∨ op = 23 ∨ op = 28 ∨ op = 29 ∨ op = 30 ∨ op = 31 ∨ op = 41 ∨ op = 42 := by
    unfold pst at h
    split at h
    all_goals first | (cases h; done) | (rename_i e; simp only at e; subst e; simp [pureL])
  have hn : (op = 41 ∨ op = 42) → ¬ a.toNat = 26 := by
    intro e1 e2
    unfold n26 at hq
    rcases e1 with e1 | e1 <;> subst e1 <;> simp [e2] at hq
  rcases ho with e | e | e | e | e | e | e | e
  · exact absurd e hp
  · subst e
    have h : f_put (23, nx, a, b, ts) lv st σ = some (pc', lv', st', σ') := h
    unfold f_put at h
    repeat' split at h
    all_goals first | (cases h; done) | (cases h; exact sPut_nk hL)
  · subst e
    have h : f_iast (28, nx, a, b, ts) lv st σ = some (pc', lv', st', σ') := h
    unfold f_iast at h
    repeat' split at h
    all_goals first | (cases h; done) | (cases h; exact sPut_nk hL)
  · subst e
    have h : f_bast (29, nx, a, b, ts) lv st σ = some (pc', lv', st', σ') := h
    unfold f_bast at h
    repeat' split at h
    all_goals first | (cases h; done) | (cases h; exact sPut_nk hL)
  · subst e
    have h : f_last (30, nx, a, b, ts) lv st σ = some (pc', lv', st', σ') := h
    unfold f_last at h
    repeat' split at h
    all_goals first | (cases h; done) | (cases h; exact sPut_nk hL)
  · subst e
    have h : f_aast (31, nx, a, b, ts) lv st σ = some (pc', lv', st', σ') := h
    unfold f_aast at h
    repeat' split at h
    all_goals first | (cases h; done) | (cases h; exact sPut_nk hL)
  · subst e
    have h : f_new (41, nx, a, b, ts) lv st σ = some (pc', lv', st', σ') := h
    unfold f_new at h
    cases h
    exact sNew_nk hL (hn (Or.inl rfl))
  · subst e
    have h : f_newa (42, nx, a, b, ts) lv st σ = some (pc', lv', st', σ') := h
    unfold f_newa at h
    repeat' split at h
    all_goals first | (cases h; done) | (cases h; exact sNew_nk hL (hn (Or.inr rfl)))
def nchk (mi lo : Nat) : Bool := (pg mi).all (fun e => decide (e.1 < lo) || n26 e.2)
theorem nchk_q {mi lo pc : Nat} {q : PI} (hm : mi < 203) (h : nchk mi lo = true) (hl : lo ≤ pc) (hq : pins mi pc = some q) : n26 q = true := by
  unfold pins at hq
  rw [if_pos hm] at hq
  unfold nchk at h
  generalize pg mi = l at h hq
  induction l with
  | nil => cases hq
  | cons e r ih =>
    rw [List.all_cons, Bool.and_eq_true] at h
    obtain ⟨j, w⟩ := e
    unfold plkI at hq
    split at hq
    · rename_i e
      cases hq
      have e : j = pc := e
      have h1 := h.1
      simp only [e, decide_eq_false (show ¬ pc < lo by omega), Bool.false_or] at h1
      exact h1
    · exact ih h.2 hq
theorem prun_nk {M : List Nat} {K J : Nat} (hM : ∀ c ∈ M, c < 203 ∧ kchk M K J c 0 = true ∧ nchk c 0 = true) : ∀ (n mi lo : Nat), mi < 203 → (kchk M K J mi lo = true ∧ nchk mi lo = true) → ∀ (pc : Nat) (lv : LV) (st : List Value) (σ : ps) (x : Option Value × ps), lo ≤ pc → (∀ a ∈ sL σ, a < σ.1) → prun n mi pc lv st σ = some x → Nk σ x.2 := by
  intro n
  induction n with
  | zero => intro mi lo _ _ pc lv st σ x _ _ h; cases h
  | succ n ih =>
    intro mi lo hm hc pc lv st σ x hl hL h
    unfold prun at h
    cases hp : pins mi pc with
    | none => rw [hp] at h; cases h
    | some q =>
      rw [hp] at h
      have hq := kchk_q hm hc.1 hl hp
      have hnq := nchk_q hm hc.2 hl hp
      have hq0 := hq
      unfold keepQ at hq
      rw [Bool.and_eq_true, Bool.and_eq_true, Bool.and_eq_true] at hq
      obtain ⟨-, h2, h3, h4⟩ := hq
      simp only at h
      by_cases e36 : q.1 = 36
      · rw [if_pos e36] at h
        have h3 : lo ≤ q.2.1 := by
          rw [e36] at h3
          simp only [Bool.or_eq_true, decide_eq_true_eq, beq_iff_eq] at h3
          omega
        have hcm : q.2.2.1.toNat ∈ M := by
          rw [e36] at h2
          simp only [beq_self_eq_true, Bool.not_true, Bool.false_or] at h2
          exact List.contains_iff_mem.mp h2
        split at h
        · split at h
          · cases h
          · rename_i r σ1 hr
            have s1 := ih _ 0 (hM _ hcm).1 (hM _ hcm).2 _ _ _ _ _ (Nat.zero_le _) hL hr
            exact s1.tr (ih _ lo hm hc _ _ _ _ _ h3 s1.1.2 h)
        · cases h
      · rw [if_neg e36] at h
        split at h
        · cases h; exact Nk.rf hL
        · rename_i hr
          split at h
          · cases h
          · rename_i pc' lv' st' σ' hs
            have s1 := pst_nk hL hnq hs
            refine s1.tr (ih _ lo hm hc pc' _ _ _ _ ?_ s1.1.2 h)
            obtain ⟨n1, n2, -, -⟩ := pst_nx hs
            have hnr : ¬ (37 ≤ q.1 ∧ q.1 ≤ 40) := by
              intro e
              obtain ⟨op, nx, a, b, ts⟩ := q
              have e : 37 ≤ op ∧ op ≤ 40 := e
              have : op = 37 ∨ op = 38 ∨ op = 39 ∨ op = 40 := by omega
              rcases this with e | e | e | e <;> subst e <;> cases hs
            simp only [Bool.or_eq_true, decide_eq_true_eq, beq_iff_eq] at h3
            cases hb : brL q with
            | false =>
              rw [n1 hb]
              rcases h3 with h3 | h3 | h3
              · exact absurd h3 hnr
              · exfalso
                unfold brL at hb
                rw [h3] at hb
                simp at hb
              · exact h3
            | true =>
              rw [hb] at h4
              simp only [Bool.not_true, Bool.false_or, Bool.and_eq_true, decide_eq_true_eq] at h4
              rcases n2 hb with e | e | e
              · have h5 := h4.2
                rw [e] at h5
                simp only [beq_self_eq_true, Bool.true_and, Bool.not_eq_true', decide_eq_false_iff_not] at h5
                omega
              · rw [e]
                rcases h3 with h3 | h3 | h3
                · exact absurd h3 hnr
                · obtain ⟨op, nx, a, b, ts⟩ := q
                  have h3 : op = 20 := h3
                  subst h3
                  cases hs
                  have e : b.toNat = nx := e
                  have h4 : lo ≤ b.toNat := h4.1
                  show lo ≤ nx
                  omega
                · exact h3
              · rw [e]; exact h4.1
theorem prun_rgn {mi out : Nat} {R kl M : List Nat} {K J : Nat} (hM : ∀ c ∈ M, c < 203 ∧ kchk M K J c 0 = true ∧ nchk c 0 = true) (hm : mi < 203) (hnn : (pg mi).all (fun e => !(R.contains e.1) || (n26 e.2 && (!(e.2.1 == 36) || M.contains e.2.2.2.1.toNat))) = true) (hall : (pg mi).all (fun e => !(R.contains e.1) || regQ R out kl e.2) = true) : ∀ (n pc : Nat) (lv : LV) (st : List Value) (σ : ps) (x : Option Value × ps), R.contains pc = true → (∀ a ∈ sL σ, a < σ.1) → prun n mi pc lv st σ = some x → ∃ m lv' st' σ', m ≤ n ∧ (∀ i ∈ kl, plk lv' i = plk lv i) ∧ Nk σ σ' ∧ prun m mi out lv' st' σ' = some x := by
  intro n
  induction n with
  | zero => intro pc lv st σ x _ _ h; cases h
  | succ n ih =>
    intro pc lv st σ x hR hL h
    unfold prun at h
    cases hp : pins mi pc with
    | none => rw [hp] at h; cases h
    | some q =>
      rw [hp] at h
      have hq : regQ R out kl q = true := by
        unfold pins at hp
        rw [if_pos hm] at hp
        exact plkI_allR _ hall pc q hR hp
      have hnq : (n26 q && (!(q.1 == 36) || M.contains q.2.2.1.toNat)) = true := by
        unfold pins at hp
        rw [if_pos hm] at hp
        exact plkI_allR (f := fun q => n26 q && (!(q.1 == 36) || M.contains q.2.2.1.toNat)) _ hnn pc q hR hp
      rw [Bool.and_eq_true] at hnq
      unfold regQ at hq
      rw [Bool.and_eq_true, Bool.and_eq_true, Bool.and_eq_true] at hq
      obtain ⟨h1, h2, h3, h4⟩ := hq
      have go : ∀ (pc' : Nat) (lv' : LV) (st' : List Value) (σ' : ps), (R.contains pc' || pc' == out) = true → (∀ i ∈ kl, plk lv' i = plk lv i) → Nk σ σ' → prun n mi pc' lv' st' σ' = some x → ∃ m lv' st' σ', m ≤ n + 1 ∧ (∀ i ∈ kl, plk lv' i = plk lv i) ∧ Nk σ σ' ∧ prun m mi out lv' st' σ' = some x := by
        intro pc' lv' st' σ' hc hlv hS h
        rw [Bool.or_eq_true, beq_iff_eq] at hc
        rcases hc with hc | hc
        · obtain ⟨m, l2, s2, σ2, a1, a2, a3, a4⟩ := ih pc' lv' st' σ' x hc hS.1.2 h
          exact ⟨m, l2, s2, σ2, by omega, fun i hi => (a2 i hi).trans (hlv i hi), hS.tr a3, a4⟩
        · subst hc; exact ⟨n, lv', st', σ', by omega, hlv, hS, h⟩
      simp only at h
      by_cases e36 : q.1 = 36
      · rw [if_pos e36] at h
        have hcm : q.2.2.1.toNat ∈ M := by
          have h9 := hnq.2
          rw [e36] at h9
          simp only [beq_self_eq_true, Bool.not_true, Bool.false_or] at h9
          exact List.contains_iff_mem.mp h9
        have h1 : (R.contains q.2.1 || q.2.1 == out) = true := by
          rw [Bool.or_eq_true] at h1
          rcases h1 with h1 | h1
          · exact h1
          · rw [e36] at h1; exact absurd h1 (by decide)
        split at h
        · split at h
          · cases h
          · rename_i r σ1 hr
            exact go _ _ _ _ h1 (fun _ _ => rfl) (prun_nk hM _ _ 0 (hM _ hcm).1 (hM _ hcm).2 _ _ _ _ _ (Nat.zero_le _) hL hr) h
        · cases h
      · rw [if_neg e36] at h
        split at h
        · rename_i r hr
          exfalso
          rw [Bool.not_eq_true', decide_eq_false_iff_not] at h3
          rw [pret_none h3] at hr
          cases hr
        · split at h
          · cases h
          · rename_i pc' lv' st' σ' hs
            obtain ⟨n1, n2, n3, n4⟩ := pst_nx hs
            refine go pc' lv' st' σ' ?_ ?_ (pst_nk hL hnq.1 hs) h
            · cases hb : brL q with
              | false =>
                rw [n1 hb]
                rw [Bool.or_eq_true] at h1
                rcases h1 with h1 | h1
                · exact h1
                · exfalso
                  unfold brL at hb
                  simp only [Bool.or_eq_false_iff] at hb
                  rw [hb.2.2.2.2.1] at h1
                  cases h1
              | true =>
                rw [hb] at h2
                simp only [Bool.not_true, Bool.false_or, Bool.and_eq_true, Bool.not_eq_true', beq_eq_false_iff_ne] at h2
                rcases n2 hb with e | e | e
                · exact absurd e h2.2
                · rw [e]
                  rw [Bool.or_eq_true] at h1
                  rcases h1 with h1 | h1
                  · exact h1
                  · have e20 : q.1 = 20 := by rw [beq_iff_eq] at h1; exact h1
                    obtain ⟨op, nx, a, b, ts⟩ := q
                    have e20 : op = 20 := e20
                    subst e20
                    cases hs
                    have e : b.toNat = nx := e
                    have h2 := h2.1
                    show (R.contains nx || nx == out) = true
                    rw [← e]
                    exact h2
                · rw [e]; exact h2.1
            · intro i hi
              cases hb : stL q with
              | false => rw [n3 hb]
              | true =>
                rw [hb] at h4
                simp only [Bool.not_true, Bool.false_or] at h4
                have := List.all_eq_true.mp h4 i hi
                simp only [Bool.and_eq_true, Bool.not_eq_true', beq_eq_false_iff_ne] at this
                obtain ⟨v, hv | ⟨_, hv⟩⟩ := n4 hb
                · rw [hv]; exact plk_pst1 this.1 this.2.1
                · rw [hv]; exact plk_pst2 this.1 this.2.1 this.2.2
theorem cq_M : ∀ c ∈ ([0, 7, 15, 25, 35, 44, 55, 60, 76, 77, 78, 79] : List Nat), c < 203 ∧ kchk [0, 7, 15, 25, 35, 44, 55, 60, 76, 77, 78, 79] 99 0 c 0 = true ∧ nchk c 0 = true := by decide +kernel
/-- one queue -/
theorem pc_cq {n x : Nat} {σ : ps} {y : Option Value × ps} (hL : ∀ a ∈ sL σ, a < σ.1) (h0 : ∀ a ∈ sL σ, ¬ sK σ a = 26) (h : prun n 86 0 (lv_args 0 [.ref x]) [] σ = some y) : ∃ qa, Uq qa y.2 := by
  have h : prun n 86 0 [(0, .ref x)] [] σ = some y := h
  obtain ⟨k, lv', st', σ', _, hkl, S, h⟩ := prun_rgn (mi := 86) (out := 43) (R := [0, 1, 4, 5, 7, 10, 13, 14, 17, 18, 21, 24, 25, 28, 29, 32, 35, 36, 38, 40]) (kl := [0]) cq_M (by decide) (by decide +kernel) (by decide +kernel) _ _ _ _ _ _ (by decide) hL h
  have k0 : plk lv' 0 = some (.ref x) := (hkl 0 (by decide)).trans rfl
  obtain ⟨m1, j1, h⟩ := v_al h (by decide +kernel : pins 86 43 = some (5, 44, 0, 0, [])) (v := x) k0
  obtain ⟨m2, w, j2, e, h⟩ := u_ic h (by decide +kernel : pins 86 44 = some (0, 47, 1025, 0, [])) (by decide)
  obtain ⟨m3, j3, h⟩ := v_newa h (by decide +kernel : pins 86 47 = some (42, 50, 26, 0, []))
  have S2 : Sl σ' (sNew σ' (26 : Int).toNat (rk (26 : Int).toNat).2 (fun _ => rowV (rk (26 : Int).toNat).1)) := stp.sl (Or.inr (Or.inr ⟨_, _, _, rfl⟩)) S.1.2
  have K := prun_nk cq_M m3 86 50 (by decide) ⟨by decide +kernel, by decide +kernel⟩ 50 _ _ _ _ (by decide) S2.2 h
  have me : σ'.1 ∈ sL (sNew σ' (26 : Int).toNat (rk (26 : Int).toNat).2 (fun _ => rowV (rk (26 : Int).toNat).1)) := List.mem_append_right _ (List.mem_singleton.mpr rfl)
  have q := K.1.1 _ me
  refine ⟨σ'.1, q.1, q.2.trans (sNew_selfK _ _ _ _), fun b hb hk => ?_⟩
  have m := K.2 b hb hk
  have hk2 := ((K.1.1 b m).2).symm.trans hk
  have m' : b ∈ sL σ' ++ [σ'.1] := m
  rcases List.mem_append.mp m' with m1 | m1
  · exfalso
    have hk3 : sK σ' b = 26 := ((S2.1 b m1).2).symm.trans hk2
    have m4 := S.2 b m1 hk3
    exact h0 b m4 (((S.1.1 b m4).2).symm.trans hk3)
  · exact List.mem_singleton.mp m1
/-- the class's object, the reference's still to come -/
def St2 (N x qa : Nat) (Z : Nat → Prop) (σ : ps) : Prop := Typed Z σ ∧ (∀ a ∈ sL σ, a < σ.1) ∧ Z x ∧ sK σ x = 12 ∧ Uq qa σ ∧ sV σ x 9 = .long 0 ∧ (∀ a ∈ sL σ, ¬ sK σ a = 97 ∧ ¬ sK σ a = 101) ∧ σ.1 ≤ N + 1395 ∧ σ.2.1 ≤ 12790
def s_0 (N : Nat) : ps := (N, 0, [], fun _ => 0, fun _ _ => .null)
theorem dfv12 : ∀ c ∈ cCh tC18, c.1 = 0 ∧ c.2.1 = 0 ∧ (¬ c.2.2.2 = 0) ∧ dfv 12 c.2.2.1.toNat = ([.null, .null, .int 0, .long 0] : List Value).getD c.2.2.2 .null := by decide +kernel
theorem dfv13 : ∀ c ∈ cCh tC296, c.1 = 0 ∧ c.2.1 = 0 ∧ (¬ c.2.2.2 = 0) ∧ dfv 13 c.2.2.1.toNat = ([.null, .long 0, .null, .int 0] : List Value).getD c.2.2.2 .null := by decide +kernel
theorem okraw {Z : Nat → Prop} {L : List Nat} {K : Nat → Nat} {a k : Nat} (h1 : a ∈ L) (h2 : ¬ Z a) (h3 : K a = k) : okA Z L K (4, ((k : Nat) : Int), 0, 0, 0) (.ref a) := Or.inr (Or.inr (Or.inr (Or.inr (Or.inl ⟨rfl, a, rfl, h1, h2, by rw [h3]; show k = ((k : Nat) : Int).toNat; omega⟩))))
theorem oki0 {Z : Nat → Prop} {L : List Nat} {K : Nat → Nat} : okA Z L K (0, 0, 0, 0, 0) (.int 0) := okA.z0
theorem ent4 {C : CT} {Z : Nat → Prop} {σ : ps} {vs : List Value} (h : okE Z (sL σ) (sK σ) (cEnv C) vs) (hc : ∀ c ∈ cCh C, chOK (fun i => vs.getD i .null) σ c) (h4 : ∀ i, i < (cEnv C).length → ((cEnv C).getD i (0, 0, 0, 0, 0)).1 = 4 → i = 0) : EntOK C Z σ vs := by
  obtain ⟨l, f⟩ := okE_len _ _ h
  refine ⟨l, f, hc, fun i t h1 e => ?_⟩
  have hl := (List.getElem?_eq_some_iff.mp h1).1
  refine h4 i hl ?_
  rw [List.getD_eq_getElem?_getD, h1]
  exact e
theorem st_cls (N : Nat) : ∃ n σ', prun n 86 0 (lv_args 0 [.ref N]) [] (sNew (s_0 N) 12 (nF 12) (dfv 12)) = some (none, σ') ∧ ∃ qa Z, St2 N N qa Z σ' := by
  have hk : sK (sNew (s_0 N) 12 (nF 12) (dfv 12)) N = 12 := sNew_selfK (s_0 N) 12 (nF 12) (dfv 12)
  have hv : sV (sNew (s_0 N) 12 (nF 12) (dfv 12)) N = dfv 12 := sNew_selfV (s_0 N) 12 (nF 12) (dfv 12)
  have hm : ∀ a, a ∈ sL (sNew (s_0 N) 12 (nF 12) (dfv 12)) → a = N := fun a ha => by
    have ha : a ∈ ([] : List Nat) ++ [N] := ha
    simpa using ha
  have hN : N ∈ sL (sNew (s_0 N) 12 (nF 12) (dfv 12)) := List.mem_append_right _ (List.mem_singleton.mpr rfl)
  have hL : ∀ a ∈ sL (sNew (s_0 N) 12 (nF 12) (dfv 12)), a < (sNew (s_0 N) 12 (nF 12) (dfv 12)).1 := fun a ha => by
    rw [hm a ha]
    exact Nat.lt_succ_self N
  obtain ⟨n, r, σ', run, Z, T', L', R, S, a⟩ := tV18 (fun _ => False) (sNew (s_0 N) 12 (nF 12) (dfv 12)) [.ref N, .null, .int 0, .long 0] (fun a h => h.elim) hL (ent4 ⟨okraw hN (fun h => h) hk, okA.nul, oki0, okA.l0, trivial⟩ (fun c hc => by
    obtain ⟨c1, c2, c4, c3⟩ := dfv12 c hc
    refine Or.inr ⟨N, by rw [c1]; rfl, Or.inl ⟨c2, ?_⟩⟩
    rw [hv, c3]
    generalize c.2.2.2 = k at c4
    cases k with
    | zero => exact absurd rfl c4
    | succ k => rfl) (by decide)) (fun h => absurd rfl h)
  have run : prun n 86 0 (lv_args 0 [.ref N]) [] (sNew (s_0 N) 12 (nF 12) (dfv 12)) = some (r, σ') := run
  have er : r = none := by
    obtain ⟨alt, h1, h2⟩ := a
    have h1 : alt ∈ [([(2,12,0,0,0),(5,0,0,0,0),(0,0,0,0,0),(1,0,0,0,0)],[],[])] := h1
    rw [List.mem_singleton] at h1
    subst h1
    rcases h2.2.2.1 with ⟨_, q⟩ | ⟨_, _, q, _⟩
    · exact q
    · cases q
  have zx : Z N ∧ sK σ' N = 12 := by
    obtain ⟨alt, h1, h2⟩ := a
    have h1 : alt ∈ [([(2,12,0,0,0),(5,0,0,0,0),(0,0,0,0,0),(1,0,0,0,0)],[],[])] := h1
    rw [List.mem_singleton] at h1
    subst h1
    obtain ⟨b, eb, zb, kb⟩ := (h2.2.1 0 _ _ rfl rfl).r rfl
    cases eb
    exact ⟨zb, kb⟩
  subst er
  obtain ⟨qa, u⟩ := pc_cq hL (fun a ha => by rw [hm a ha, hk]; decide) run
  have z9 := pc_cinit hL hN hk run
  have s1 : σ'.1 ≤ N + 1 + 1394 := (S.1 rfl).1
  have s2 : σ'.2.1 ≤ 0 + 10 + 12780 := (S.1 rfl).2
  refine ⟨n, σ', run, qa, Z, T', L', zx.1, zx.2, u, z9, fun a ha => ?_, by omega, by omega⟩
  by_cases hl : a ∈ sL (sNew (s_0 N) 12 (nF 12) (dfv 12))
  · rw [hm a hl, zx.2]
    exact ⟨by decide, by decide⟩
  · have q := (R.2.2.1 a ha hl).1
    exact ⟨fun e => by rw [e] at q; revert q; decide, fun e => by rw [e] at q; revert q; decide⟩
/-- both objects -/
def St4 (N x t qa : Nat) (Z : Nat → Prop) (σ : ps) : Prop := Typed Z σ ∧ (∀ a ∈ sL σ, a < σ.1) ∧ (Z x ∧ sK σ x = 12) ∧ Uq qa σ ∧ sV σ x 9 = .long 0 ∧ JU σ ∧ (Z t ∧ sK σ t = 13) ∧ (∃ a : Nat, sV σ t 26 = .ref a ∧ a < σ.1 ∧ ∀ i, sV σ a i = .int 0) ∧ (∃ a : Nat, sV σ t 32 = .ref a ∧ a < σ.1 ∧ ∀ i, sV σ a i = .int 0) ∧ (∃ a : Nat, sV σ t 4 = .ref a ∧ a < σ.1 ∧ ∀ i, sV σ a i = .int 0) ∧ sV σ t 47 = .int 0 ∧ sV σ t 0 = .long 0 ∧ t < σ.1 ∧ x < σ.1 ∧ σ.1 ≤ N + 1453 ∧ σ.2.1 ≤ 187433
theorem st_ref {N x qa : Nat} {Z : Nat → Prop} {σ : ps} (h : St2 N x qa Z σ) : ∃ n σ', prun n 135 0 (lv_args 0 [.ref σ.1]) [] (sNew σ 13 (nF 13) (dfv 13)) = some (none, σ') ∧ ∃ Z', St4 N x σ.1 qa Z' σ' := by
  obtain ⟨T, L, zx, kx, u, t9, nk, b1, b2⟩ := h
  have xl : x < σ.1 := L x (T x zx).1
  have fr : ∀ a ∈ sL σ, ¬ a = σ.1 := fun a ha e => by have := L a ha; omega
  have hk : sK (sNew σ 13 (nF 13) (dfv 13)) σ.1 = 13 := sNew_selfK σ 13 (nF 13) (dfv 13)
  have hv : sV (sNew σ 13 (nF 13) (dfv 13)) σ.1 = dfv 13 := sNew_selfV σ 13 (nF 13) (dfv 13)
  have ht : σ.1 ∈ sL (sNew σ 13 (nF 13) (dfv 13)) := List.mem_append_right _ (List.mem_singleton.mpr rfl)
  have hm : ∀ a, a ∈ sL (sNew σ 13 (nF 13) (dfv 13)) → a ∈ sL σ ∨ a = σ.1 := fun a ha => by
    have ha : a ∈ sL σ ++ [σ.1] := ha
    simpa using ha
  have S1 : Sl σ (sNew σ 13 (nF 13) (dfv 13)) := stp.sl (Or.inr (Or.inr ⟨_, _, _, rfl⟩)) L
  have hT : Typed Z (sNew σ 13 (nF 13) (dfv 13)) := fun a ha => by
    obtain ⟨m, f⟩ := T a ha
    refine ⟨(S1.1 a m).1, fun j hj => ?_⟩
    rw [(S1.1 a m).2] at hj ⊢
    rw [sNew_neV _ _ _ (fr a m)]
    exact (f j hj).mono (fun b hb => ⟨(T b hb).1, hb⟩) (fun b hb => (S1.1 b hb).2) (fun b hb => (S1.1 b hb).1) (fun e b eb => by
      obtain ⟨b', e1, _, nz, _⟩ := (f j hj).w e
      rw [e1] at eb
      cases eb
      exact nz)
  have nz : ¬ Z σ.1 := fun hz => by have := L _ (T _ hz).1; omega
  obtain ⟨n, r, σ', run, Z', T', L', R, S, a⟩ := tV296 Z (sNew σ 13 (nF 13) (dfv 13)) [.ref σ.1, .long 0, .null, .int 0] hT S1.2 (ent4 ⟨okraw ht nz hk, okA.l0, okA.nul, oki0, trivial⟩ (fun c hc => by
    obtain ⟨c1, c2, c4, c3⟩ := dfv13 c hc
    refine Or.inr ⟨σ.1, by rw [c1]; rfl, Or.inl ⟨c2, ?_⟩⟩
    rw [hv, c3]
    generalize c.2.2.2 = k at c4
    cases k with
    | zero => exact absurd rfl c4
    | succ k => rfl) (by decide)) (fun h => absurd rfl h)
  have run : prun n 135 0 (lv_args 0 [.ref σ.1]) [] (sNew σ 13 (nF 13) (dfv 13)) = some (r, σ') := run
  have er : r = none := by
    obtain ⟨alt, h1, h2⟩ := a
    have h1 : alt ∈ [([(2,13,0,0,0),(1,0,0,0,0),(5,0,0,0,0),(0,0,0,0,0)],[],[])] := h1
    rw [List.mem_singleton] at h1
    subst h1
    rcases h2.2.2.1 with ⟨_, q⟩ | ⟨_, _, q, _⟩
    · exact q
    · cases q
  have zt : Z' σ.1 ∧ sK σ' σ.1 = 13 := by
    obtain ⟨alt, h1, h2⟩ := a
    have h1 : alt ∈ [([(2,13,0,0,0),(1,0,0,0,0),(5,0,0,0,0),(0,0,0,0,0)],[],[])] := h1
    rw [List.mem_singleton] at h1
    subst h1
    obtain ⟨b, eb, zb, kb⟩ := (h2.2.1 0 _ _ rfl rfl).r rfl
    cases eb
    exact ⟨zb, kb⟩
  subst er
  have s1 := S.1 rfl
  have mx := (S1.1 x (T x zx).1)
  have kxx : sK (sNew σ 13 (nF 13) (dfv 13)) x = 12 := mx.2.trans kx
  have e9 : sV σ' x 9 = .long 0 := by
    rw [(R.kp mx.1 (j := 9) (by rw [kxx]; decide +kernel)).2.2, sNew_neV _ _ _ (fr x (T x zx).1)]
    exact t9
  have old : ∀ a ∈ sL σ', (¬ a ∈ sL σ) → a = σ.1 ∨ (cNk tC296).contains (sK σ' a) = true := fun a ha hn => by
    by_cases hl : a ∈ sL (sNew σ 13 (nF 13) (dfv 13))
    · rcases hm a hl with q | q
      · exact absurd q hn
      · exact Or.inl q
    · exact Or.inr (R.2.2.1 a ha hl).1
  have kold : ∀ a ∈ sL σ, a ∈ sL σ' ∧ sK σ' a = sK σ a := fun a ha => by
    have q := R.1 a (S1.1 a ha).1
    exact ⟨q.1, q.2.1.trans (S1.1 a ha).2⟩
  have u' : Uq qa σ' := by
    refine ⟨(kold qa u.1).1, (kold qa u.1).2.trans u.2.1, fun b hb hkb => ?_⟩
    by_cases hl : b ∈ sL σ
    · exact u.2.2 b hl ((kold b hl).2.symm.trans hkb)
    · exfalso
      rcases old b hb hl with q | q
      · rw [q, zt.2] at hkb; revert hkb; decide
      · rw [hkb] at q; revert q; decide
  have tl : σ.1 < (sNew σ 13 (nF 13) (dfv 13)).1 := Nat.lt_succ_self σ.1
  obtain ⟨σ1, C, aa, ex, e48⟩ := pc_minit tl run
  have ex : σ' = sPut σ1 aa 10 (.int (Int32.ofInt (-1))) := ex
  obtain ⟨c1, c2, c3, c4, c5, c6⟩ := C
  have eb : (sNew σ 13 (nF 13) (dfv 13)).1 = σ.1 + 1 := rfl
  have i48 : aa = σ.1 + 1 + 43 := by
    have q := (c3 43 (by decide)).2.2
    have q : sV σ1 σ.1 48 = .ref (σ.1 + 1 + 43) := q
    rw [e48] at q
    cases q
    rfl
  have tne : ¬ σ.1 = aa := by omega
  have vt : ∀ j, sV σ' σ.1 j = sV σ1 σ.1 j := fun j => by rw [ex, sPut_ne _ _ tne]
  have row : ∀ i, i < ciK.length → ¬ i = 43 → sV σ' (σ.1 + 1 + i) = (fun _ => rowV (rk (ciK.getD i 0)).1) := fun i hi hn => by
    rw [ex, sPut_ne _ _ (by omega)]
    exact (c3 i hi).2.1
  have J : JU σ' := by
    have KK : ∀ a ∈ sL σ', (sK σ' a = 97 ∨ sK σ' a = 101) → ∃ i, i < ciK.length ∧ a = σ.1 + 1 + i ∧ sK σ' a = ciK.getD i 0 := by
      intro a ha hka
      have ha1 : a ∈ sL σ1 := by rw [ex] at ha; exact ha
      rcases c2 a ha1 with q | q
      · exfalso
        rcases hm a q with q | q
        · have := nk a q
          rw [(kold a q).2] at hka
          omega
        · rw [q, zt.2] at hka; omega
      · refine ⟨a - (σ.1 + 1), by omega, by omega, ?_⟩
        have w := (c3 (a - (σ.1 + 1)) (by omega)).1
        rw [eb, show σ.1 + 1 + (a - (σ.1 + 1)) = a by omega] at w
        rw [ex]
        exact w
    intro a b ha hb e hka
    obtain ⟨i, hi, ea, ka⟩ := KK a ha hka
    obtain ⟨k, hk2, eb2, kb⟩ := KK b hb (by rw [← e]; exact hka)
    have := ciK_nd i hi k hk2 (by rw [← ka, ← kb]; exact e)
    omega
  have big : σ.1 + 1 + ciK.length = σ'.1 := by rw [ex]; exact c1.symm
  have ll : ciK.length = 57 := by decide
  have n13 : nF 13 = 68 := by decide
  have sz : (sNew σ 13 (nF 13) (dfv 13)).2.1 = σ.2.1 + nF 13 := rfl
  have s2 : σ'.2.1 ≤ (sNew σ 13 (nF 13) (dfv 13)).2.1 + 174575 := s1.2
  refine ⟨n, σ', run, Z', T', L', ⟨R.2.1 x zx, (R.1 x mx.1).2.1.trans kxx⟩, u', e9, J, zt, ⟨σ.1 + 1 + 23, ?_, by omega, fun i => ?_⟩, ⟨σ.1 + 1 + 29, ?_, by omega, fun i => ?_⟩, ⟨σ.1 + 1 + 1, ?_, by omega, fun i => ?_⟩, ?_, ?_, by omega, by omega, by omega, by omega⟩
  · rw [vt]; exact (c3 23 (by decide)).2.2
  · rw [row 23 (by decide) (by decide)]; rfl
  · rw [vt]; exact (c3 29 (by decide)).2.2
  · rw [row 29 (by decide) (by decide)]; rfl
  · rw [vt]; exact (c3 1 (by decide)).2.2
  · rw [row 1 (by decide) (by decide)]; rfl
  · rw [vt, c4 47 (by decide), hv]; decide +kernel
  · rw [vt, c4 0 (by decide), hv]; decide +kernel

