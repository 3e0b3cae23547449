section EN
variable {X : CT} {Z0 : Nat → Prop} {σ0 : ps} {vs : List Value} {P : Option Value → ps → Prop}
theorem node_ok {ct : List CT} (hct : ∀ C ∈ ct, Valid C) {nd : ND} {rest : List ND} {ms : List Nat} {fuel : Nat} (hlen : vs.length = (cEnv X).length) (hret : RetP X Z0 σ0 vs P) (hrest : ∀ t ∈ rest, NOK X Z0 σ0 vs P t) (h : arun ct X nd rest ms fuel nd.1 nd.2.1 = true) : NOK X Z0 σ0 vs P nd := by
  have main : ∀ (N : Nat) (Z : Nat → Prop) (ρ : Nat → Value) (lv : LV) (st : List Value) (σ : ps), mu ρ nd.2.2 < N → Inv X (rwOf X vs) Z0 σ0 vs Z ρ nd.2.1 lv st σ → wp X.1 nd.1 lv st σ P := by
    intro N
    induction N with
    | zero => intro Z ρ lv st σ hN; omega
    | succ N ih =>
      intro Z ρ lv st σ hN I
      have gu : ∀ i, i < nd.2.1.1.length → ((List.range nd.2.1.1.length).map ρ)[i]? = some (ρ i) := by
        intro i hi
        rw [List.getElem?_map, List.getElem?_range hi]
        rfl
      have hus : ∀ (i : Nat) (v : Value), vs[i]? = some v → ((List.range nd.2.1.1.length).map ρ)[i]? = some v := by
        intro i v hv
        have hi := (List.getElem?_eq_some_iff.mp hv).1
        have := I.2.2.2.2.1
        rw [gu i (by omega), I.2.2.2.1 i v hv]
      have I' : Inv X (rwOf X vs) Z0 σ0 ((List.range nd.2.1.1.length).map ρ) Z ρ nd.2.1 lv st σ := by
        refine ⟨I.1, I.2.1, I.2.2.1, fun i v hv => ?_, by rw [List.length_map, List.length_range]; exact Nat.le_refl _, I.2.2.2.2.2⟩
        have hi := (List.getElem?_eq_some_iff.mp hv).1
        rw [List.length_map, List.length_range] at hi
        rw [gu i hi] at hv
        exact Option.some.inj hv
      refine arun_ok hct hlen hret hrest hus gu ?_ fuel nd.1 nd.2.1 Z ρ lv st σ h I'
      intro _ Z' ρ' lv' st' σ' J hxy
      obtain ⟨x, y, ey, ex, hlt⟩ := hxy
      refine ih Z' ρ' lv' st' σ' ?_ J
      have m1 : mu ρ nd.2.2 = (2147483647 - y.toInt).toNat := by unfold mu; rw [ey]
      have m2 : mu ρ' nd.2.2 = (2147483647 - x.toInt).toNat := by unfold mu; rw [ex]
      have := n_rng x
      have := n_rng y
      omega
  exact fun Z ρ lv st σ I => main _ Z ρ lv st σ (Nat.lt_succ_self _) I
theorem achk_ok {ct : List CT} (hct : ∀ C ∈ ct, Valid C) {ms : List Nat} {fuel : Nat} (hlen : vs.length = (cEnv X).length) (hret : RetP X Z0 σ0 vs P) : ∀ (l : List ND), achk ct X ms fuel l = true → ∀ t ∈ l, NOK X Z0 σ0 vs P t := by
  intro l
  induction l with
  | nil => intro _ t ht; cases ht
  | cons nd r ih =>
    intro h t ht
    unfold achk at h
    obtain ⟨h1, h2⟩ := kN h
    have hr := ih h2
    rcases List.mem_cons.mp ht with rfl | ht
    · exact node_ok hct hlen hret hr h1
    · exact hr t ht
theorem elv_ok (Z : Nat → Prop) (L : List Nat) (K : Nat → Nat) (ρ : Nat → Value) : ∀ (ts : List AV) (ws : List Value) (s i : Nat), ts.length = ws.length → (∀ (j : Nat) (t : AV) (v : Value), ts[j]? = some t → ws[j]? = some v → okA Z L K t v) → (∀ (j : Nat) (v : Value), ws[j]? = some v → ρ (i + j) = v) → lv_args s ws = (elv s i ts).map (fun q => (q.1, ρ q.2)) := by
  intro ts
  induction ts with
  | nil =>
    intro ws s i hl _ _
    cases ws with
    | nil => rfl
    | cons v ws => simp at hl
  | cons t ts ih =>
    intro ws s i hl hok hρ
    cases ws with
    | nil => simp at hl
    | cons v ws =>
      unfold lv_args elv
      rw [List.map_cons]
      have e0 : ρ i = v := hρ 0 v rfl
      rw [e0]
      congr 1
      have ht := hok 0 t v rfl rfl
      have ec : (if v.category = 2 then s + 2 else s + 1) = (if t.1 = 1 then s + 2 else s + 1) := by
        by_cases h1 : t.1 = 1
        · obtain ⟨x, ex, _⟩ := ht.l h1
          rw [if_pos h1, ex]
          rfl
        · rw [if_neg h1]
          rcases ht with ⟨_, x, ex, _⟩ | ⟨q, _⟩ | ⟨_, b, eb, _⟩ | ⟨_, eb | ⟨b, eb, _⟩⟩ | ⟨_, b, eb, _⟩ | ⟨_, eb⟩
          · rw [ex]; rfl
          · exact absurd q h1
          · rw [eb]; rfl
          · rw [eb]; rfl
          · rw [eb]; rfl
          · rw [eb]; rfl
          · rw [eb]; rfl
      rw [ec]
      refine ih ws _ (i + 1) (by simp at hl; exact hl) (fun j t' v' h1 h2 => hok (j + 1) t' v' h1 h2) (fun j v' h => ?_)
      rw [show i + 1 + j = i + (j + 1) by omega]
      exact hρ (j + 1) v' h
theorem ret_ok (hlen : vs.length = (cEnv X).length) : RetP X Z0 σ0 vs (Post X Z0 σ0 vs) := fun _ _ _ _ _ _ _ hw I h => aret_ok hw hlen I h
theorem ent_ok {Z : Nat → Prop} {σ : ps} (hT : Typed Z σ) (hL : ∀ a ∈ sL σ, a < σ.1) (hE : EntOK X Z σ vs) (hJ : ¬ cUi X = 0 → JJ σ) : Inv X (rwOf X vs) Z σ vs Z (fun i => vs.getD i .null) (aent X) (lv_args 0 (vs.take (np X.1))) [] σ := by
  obtain ⟨E1, E2, E3, E4⟩ := hE
  have gv : ∀ (i : Nat) (v : Value), vs[i]? = some v → vs.getD i .null = v := by
    intro i v hv
    rw [List.getD_eq_getElem?_getD, hv]
    rfl
  refine ⟨⟨?_, ?_, rfl, E3, ?_, hT, hL⟩, ⟨fun a ha => ⟨ha, rfl, fun _ _ => rfl⟩, fun a ha => ha, fun a h1 h2 => absurd h1 h2, fun a _ h => Or.inl h, Nat.le_refl _, Nat.le_refl _⟩, ⟨fun _ => ⟨Nat.le_refl _, Nat.le_refl _⟩, fun _ => RB.rf σ, hJ⟩, gv, ?_, ?_⟩
  · intro i e he
    have he : (X.2.1.map (fun t => (t, 0, 0)))[i]? = some e := he
    rw [List.getElem?_map] at he
    cases ht : X.2.1[i]? with
    | none => rw [ht] at he; cases he
    | some t =>
      rw [ht] at he
      cases he
      refine ⟨?_, Or.inl rfl⟩
      have hi := (List.getElem?_eq_some_iff.mp ht).1
      have hi2 : i < vs.length := by rw [E1]; exact hi
      have hv : vs[i]? = some vs[i] := List.getElem?_eq_getElem hi2
      show okA Z (sL σ) (sK σ) t (vs.getD i .null)
      rw [gv i _ hv]
      exact E2 i t _ ht hv
  · show lv_args 0 (vs.take (np X.1)) = (elv 0 0 (X.2.1.take (np X.1))).map (fun q => (q.1, vs.getD q.2 .null))
    refine elv_ok Z (sL σ) (sK σ) (fun i => vs.getD i .null) _ _ 0 0 ?_ ?_ ?_
    · rw [List.length_take, List.length_take, E1]
    · intro j t v h1 h2
      rw [List.getElem?_take] at h1 h2
      split at h1
      · rename_i hj
        rw [if_pos hj] at h2
        exact E2 j t v h1 h2
      · cases h1
    · intro j v hv
      rw [List.getElem?_take] at hv
      split at hv
      · rw [Nat.zero_add]
        exact gv j v hv
      · cases hv
  · intro i j e e' he he' h4 h4' _
    have q : ∀ (i : Nat) (e : AE), (X.2.1.map (fun t => ((t, 0, 0) : AE)))[i]? = some e → e.1.1 = 4 → i = 0 := by
      intro i e he h4
      rw [List.getElem?_map] at he
      cases ht : X.2.1[i]? with
      | none => rw [ht] at he; cases he
      | some t =>
        rw [ht] at he
        cases he
        exact E4 i t ht h4
    rw [q i e he h4, q j e' he' h4']
  · show vs.length ≤ (X.2.1.map _).length
    rw [List.length_map, E1]
    exact Nat.le_refl _
  · intro i e b he h4 hb _
    have he : (X.2.1.map (fun t => ((t, 0, 0) : AE)))[i]? = some e := he
    rw [List.getElem?_map] at he
    cases ht : X.2.1[i]? with
    | none => rw [ht] at he; cases he
    | some t =>
      rw [ht] at he
      cases he
      have hi := (List.getElem?_eq_some_iff.mp ht).1
      have hi2 : i < vs.length := by rw [E1]; exact hi
      have hv : vs[i]? = some vs[i] := List.getElem?_eq_getElem hi2
      refine ⟨i, t, ht, h4, ?_⟩
      have hb : vs.getD i .null = .ref b := hb
      rw [gv i _ hv] at hb
      rw [hv, hb]
theorem acheck_ok {ct : List CT} (hct : ∀ C ∈ ct, Valid C) {fuel : Nat} {nds : List ND} (h : acheck ct X fuel nds = true) : Valid X := by
  intro Z σ vs hT hL hE hJ
  unfold acheck at h
  obtain ⟨_, h⟩ := kN h
  exact achk_ok hct hE.1 (ret_ok hE.1) _ h (0, aent X, 0) List.mem_cons_self Z _ _ _ σ (ent_ok hT hL hE hJ)
end EN
