theorem wrow_rk : ∀ k, wrow k = true → (rk k).1 = 1 := by
  intro k h
  unfold wrow at h
  simp only [Bool.or_eq_true, beq_iff_eq] at h
  rcases h with h | h
  all_goals first | (subst h; rfl) | skip
  all_goals (rcases h with h | h)
  all_goals first | (subst h; rfl) | skip
  all_goals (rcases h with h | h)
  all_goals first | (subst h; rfl) | skip
  all_goals (rcases h with h | h)
  all_goals first | (subst h; rfl) | skip
  all_goals (rcases h with h | h)
  all_goals first | (subst h; rfl) | skip
  all_goals (rcases h with h | h)
  all_goals first | (subst h; rfl) | skip
  all_goals (rcases h with h | h)
  all_goals first | (subst h; rfl) | skip
  all_goals (rcases h with h | h)
  all_goals first | (subst h; rfl) | skip
  all_goals (rcases h with h | h)
  all_goals first | (subst h; rfl) | skip
  all_goals (rcases h with h | h)
  all_goals first | (subst h; rfl) | skip
theorem okA.z0 {Z : Nat → Prop} {L : List Nat} {K : Nat → Nat} : okA Z L K (aI 0 0) (.int 0) := okA.mkI (by rw [Int32.toInt_zero]; omega) (by rw [Int32.toInt_zero]; omega)
theorem okA.l0 {Z : Nat → Prop} {L : List Nat} {K : Nat → Nat} : okA Z L K (1, 0, 0, 0, 0) (.long 0) := Or.inr (Or.inl ⟨rfl, 0, rfl, by simp only [Int64.toInt_zero]; omega, by simp only [Int64.toInt_zero]; omega⟩)
theorem okA.nul {Z : Nat → Prop} {L : List Nat} {K : Nat → Nat} : okA Z L K aNull .null := Or.inr (Or.inr (Or.inr (Or.inr (Or.inr ⟨rfl, rfl⟩))))
theorem seal0_ok {Z : Nat → Prop} {L : List Nat} {K : Nat → Nat} {k : Nat} (hk : 20 ≤ k) (h : seal0 k = true) (j : Nat) : okA Z L K (fty k j) (rowV (rk k).1) := by
  unfold fty
  rw [if_neg (by omega)]
  split
  · rename_i hw
    rw [Bool.and_eq_true] at hw
    rw [wrow_rk k hw.1]
    exact aLe_ok (by decide) (okA.z0)
  · split
    · rename_i hz
      rw [Bool.and_eq_true, beq_iff_eq] at hz
      rw [hz.1]
      exact aLe_ok (by decide) (okA.z0)
    · unfold seal0 at h
      unfold rowV
      by_cases h2 : (rk k).1 = 2
      · rw [if_pos h2] at h ⊢
        exact aLe_ok h okA.l0
      · rw [if_neg h2] at h ⊢
        by_cases h4 : (rk k).1 < 4
        · rw [if_pos h4] at h ⊢
          exact aLe_ok h okA.z0
        · rw [if_neg h4] at h ⊢
          exact aLe_ok h okA.nul
section MK
variable {X : CT} {rw : Nat → Prop} {Z0 : Nat → Prop} {σ0 : ps} {vs : List Value} {Z : Nat → Prop} {ρ : Nat → Value} {α : AS} {lv : LV} {st : List Value} {σ : ps} {k : Nat → AS → Bool} {nx : Nat} {q1 q2 : Int} {ts : List Nat}
theorem fresh4 (I : Inv X rw Z0 σ0 vs Z ρ α lv st σ) (i : Nat) (e' : AE) (he : α.1[i]? = some e') : ¬ ρ i = .ref σ.1 := by
  intro e
  have := I.1.refL (List.getElem?_eq_some_iff.mp he).1 e
  have := I.1.2.2.2.2.2.2 _ this
  omega
theorem o41 (hw : wfB α = true) (I : Inv X rw Z0 σ0 vs Z ρ α lv st σ) (h : ast X (41, nx, q1, q2, ts) α k = true) : Nx X rw Z0 σ0 vs (41, nx, q1, q2, ts) lv st σ k := by
  have h : ((decide (cFl X = 0) && decide (cUi X = 0)) && (decide (q1.toNat < 14) && ((cNk X).contains q1.toNat && (List.range (nF q1.toNat)).all (fun j => prim (tyS q1.toNat j)))) && k nx (anewO α q1.toNat)) = true := h
  simp only [Bool.and_eq_true, decide_eq_true_eq, List.all_eq_true] at h
  obtain ⟨⟨⟨hfl, hui⟩, h14, hnk, hpr⟩, h2⟩ := h
  generalize hkd : q1.toNat = kd at h14 hnk hpr h2
  have J0 := I.alloc hw (kd := kd) (n := nF kd) (f := dfv kd) hfl hui hnk false (fun h => by cases h)
  generalize hα1 : ((α.1, α.2.1, α.2.2.1, α.2.2.2.1, α.2.2.2.2.1 + 1, α.2.2.2.2.2 + nF kd) : AS) = α1 at J0
  have hw1 : wfB α1 = true := by rw [← hα1]; exact hw
  have n1 : α1.1.length = α.1.length := by rw [← hα1]
  have hself : σ.1 ∈ sL (sNew σ kd (nF kd) (dfv kd)) := List.mem_append_right _ (List.mem_singleton.mpr rfl)
  have hnz : ¬ (fun a => Z a ∨ (false = true ∧ a = σ.1)) σ.1 := by
    intro hz
    rcases hz with hz | ⟨hz, _⟩
    · have := I.1.2.2.2.2.2.2 _ (I.1.2.2.2.2.2.1 _ hz).1
      omega
    · cases hz
  have J1 := J0.pushR hw1 (e := (aRaw kd, 0, 0)) (v := .ref σ.1) (Or.inr (Or.inr (Or.inr (Or.inr (Or.inl ⟨rfl, σ.1, rfl, hself, hnz, (sNew_selfK _ _ _ _).trans (by show kd = ((kd : Nat) : Int).toNat; omega)⟩)))))
    (fun _ => ⟨fun i e' he _ => fresh4 I i e' (by rw [← hα1] at he; exact he), fun b hb h0 => by cases hb; exact Nat.lt_irrefl _ (I.1.2.2.2.2.2.2 _ (I.2.1.1 _ h0).1)⟩) (Or.inl rfl) (l := []) (fun q hq => by cases hq)
  have hw2 : wfB (anew α1 (aRaw kd, 0, 0) []) = true := wf_new hw1 (l := [α1.1.length]) (fun q hq => by simp at hq; omega) rfl
  have J2 := J1.push hw2 (e := (aI 0 0, 0, 0)) (v := .int 0) okA.z0 (aI_ne _ _) (Or.inl rfl) (l := []) (fun q hq => by cases hq)
  have hw3 : wfB (anew (anew α1 (aRaw kd, 0, 0) []) (aI 0 0, 0, 0) []) = true := wf_new hw2 (e := (aI 0 0, 0, 0)) (l := [(anew α1 (aRaw kd, 0, 0) []).1.length]) (fun q hq => by simp at hq; omega) rfl
  have J3 := J2.push hw3 (e := ((1, 0, 0, 0, 0), 0, 0)) (v := .long 0) okA.l0 (by simp) (Or.inl rfl) (l := []) (fun q hq => by cases hq)
  have hw4 : wfB (anew (anew (anew α1 (aRaw kd, 0, 0) []) (aI 0 0, 0, 0) []) ((1, 0, 0, 0, 0), 0, 0) []) = true := wf_new hw3 (e := ((1, 0, 0, 0, 0), 0, 0)) (l := [(anew (anew α1 (aRaw kd, 0, 0) []) (aI 0 0, 0, 0) []).1.length]) (fun q hq => by simp at hq; rw [hq]; exact Nat.lt_succ_self _) rfl
  have J4 := J3.push hw4 (e := (aNull, 0, 0)) (v := .null) okA.nul (by simp [aNull]) (Or.inl rfl) (l := []) (fun q hq => by cases hq)
  have l2 : (anew α1 (aRaw kd, 0, 0) []).1.length = α.1.length + 1 := by show (α1.1 ++ [_]).length = _; rw [List.length_append, n1]; rfl
  have l3 : (anew (anew α1 (aRaw kd, 0, 0) []) (aI 0 0, 0, 0) []).1.length = α.1.length + 2 := by show ((anew α1 (aRaw kd, 0, 0) []).1 ++ [_]).length = _; rw [List.length_append, l2]; rfl
  have l4 : (anew (anew (anew α1 (aRaw kd, 0, 0) []) (aI 0 0, 0, 0) []) ((1, 0, 0, 0, 0), 0, 0) []).1.length = α.1.length + 3 := by show ((anew (anew α1 (aRaw kd, 0, 0) []) (aI 0 0, 0, 0) []).1 ++ [_]).length = _; rw [List.length_append, l3]; rfl
  rw [l4, l3, l2, n1] at J4
  generalize hρ : ru (ru (ru (ru ρ α.1.length (.ref σ.1)) (α.1.length + 1) (.int 0)) (α.1.length + 2) (.long 0)) (α.1.length + 3) .null = ρ4 at J4
  have p0 : ρ4 α.1.length = .ref σ.1 := by rw [← hρ, ru_ne _ (by omega), ru_ne _ (by omega), ru_ne _ (by omega), ru_self]
  have p1 : ρ4 (α.1.length + 1) = .int 0 := by rw [← hρ, ru_ne _ (by omega), ru_ne _ (by omega), ru_self]
  have p2 : ρ4 (α.1.length + 2) = .long 0 := by rw [← hρ, ru_ne _ (by omega), ru_self]
  have p3 : ρ4 (α.1.length + 3) = .null := by rw [← hρ, ru_self]
  have hps : α.2.2.1.map ρ4 = st := by
    rw [I.1.2.2.1]
    refine List.map_congr_left (fun q hq => ?_)
    have := wf_st hw q hq
    rw [← hρ, ru_ne _ (by omega), ru_ne _ (by omega), ru_ne _ (by omega), ru_ne _ (by omega)]
  have J5 := J4.st (α.1.length :: α.2.2.1)
  rw [List.map_cons, p0, hps] at J5
  refine ⟨nx, lv, .ref σ.1 :: st, sNew σ kd (nF kd) (dfv kd), anewO α kd, ρ4, (fun a => Z a ∨ (false = true ∧ a = σ.1)), ?_, h2, ?_⟩
  · show f_new _ _ _ _ = _
    unfold f_new
    simp only
    rw [hkd]
  · subst hα1
    have eenv : α.1 ++ [(aRaw kd, 0, 0)] ++ [(aI 0 0, 0, 0)] ++ [((1, 0, 0, 0, 0), 0, 0)] ++ [(aNull, 0, 0)] = α.1 ++ [(aRaw kd, 0, 0), (aI 0 0, 0, 0), ((1, 0, 0, 0, 0), 0, 0), (aNull, 0, 0)] := by simp
    obtain ⟨⟨g1, g2, g3, g4, g5, g6⟩, r1, r2, r3, r4⟩ := J5
    refine ⟨⟨?_, g2, g3, ?_, ?_, g6⟩, r1, r2, r3, ?_⟩
    · show ∀ (i : Nat) (e : AE), (α.1 ++ [(aRaw kd, 0, 0), (aI 0 0, 0, 0), ((1, 0, 0, 0, 0), 0, 0), (aNull, 0, 0)])[i]? = some e → _
      rw [← eenv]; exact g1
    · intro c hc
      rcases List.mem_append.mp hc with hc | hc
      · obtain ⟨j, hj, e⟩ := List.mem_map.mp hc
        subst e
        have hj2 := List.mem_range.mp hj
        refine Or.inr ⟨σ.1, p0, Or.inl ⟨rfl, ?_⟩⟩
        show sV (sNew σ kd (nF kd) (dfv kd)) σ.1 ((j : Int).toNat) = ρ4 (dfS α.1.length (tyS kd j))
        rw [sNew_selfV, Int.toNat_natCast]
        unfold dfv
        rw [if_pos hj2]
        have hp := hpr j hj
        cases ht : tyS kd j with
        | boolean => exact p1.symm
        | int => exact p1.symm
        | long => exact p2.symm
        | object n => exact p3.symm
        | array n => exact p3.symm
        | _ => rw [ht] at hp; cases hp
      · exact g4 c hc
    · show ∀ (i j : Nat) (e e' : AE), (α.1 ++ [(aRaw kd, 0, 0), (aI 0 0, 0, 0), ((1, 0, 0, 0, 0), 0, 0), (aNull, 0, 0)])[i]? = some e → (α.1 ++ [(aRaw kd, 0, 0), (aI 0 0, 0, 0), ((1, 0, 0, 0, 0), 0, 0), (aNull, 0, 0)])[j]? = some e' → _
      rw [← eenv]; exact g5
    · show _ ≤ (α.1 ++ [(aRaw kd, 0, 0), (aI 0 0, 0, 0), ((1, 0, 0, 0, 0), 0, 0), (aNull, 0, 0)]).length ∧ ∀ (i : Nat) (e : AE) (b : Nat), (α.1 ++ [(aRaw kd, 0, 0), (aI 0 0, 0, 0), ((1, 0, 0, 0, 0), 0, 0), (aNull, 0, 0)])[i]? = some e → _
      rw [← eenv]; exact r4
theorem o42 (hw : wfB α = true) (I : Inv X rw Z0 σ0 vs Z ρ α lv st σ) (h : ast X (42, nx, q1, q2, ts) α k = true) : Nx X rw Z0 σ0 vs (42, nx, q1, q2, ts) lv st σ k := by
  have h : (match α.2.2.1 with
    | x :: r => (decide (cFl X = 0) && decide (cUi X = 0)) && (((eg α x).1.1 == 0 && (decide ((eg α x).1.2.1 = ((rk q1.toNat).2 : Int)) && decide ((eg α x).1.2.2.1 = ((rk q1.toNat).2 : Int)))) && (decide (20 ≤ q1.toNat) && ((cNk X).contains q1.toNat && decide ((rk q1.toNat).2 ≤ 200000)))) && (if seal0 q1.toNat then k nx (anewA α q1.toNat r) else rowRef (rk q1.toNat).1 && k nx (anewQ α q1.toNat r))
    | _ => false) = true := h
  split at h
  · rename_i x r hs
    simp only [Bool.and_eq_true, decide_eq_true_eq, beq_iff_eq] at h
    obtain ⟨⟨⟨hfl, hui⟩, ⟨hx, x1, x2⟩, h20, hnk, hle⟩, h2⟩ := h
    generalize hkd : q1.toNat = kd at x1 x2 h20 hnk hle h2
    obtain ⟨v, ev, v1, v2, _⟩ := I.1.int hx
    have hst := I.1.stk hs
    rw [List.map_cons, ev] at hst
    have evn : v = Int32.ofNat (rk kd).2 := Int32.toInt_inj.mp (by
      have : (nI (rk kd).2).toInt = (rk kd).2 := nI_toInt (by omega)
      show v.toInt = (nI (rk kd).2).toInt
      omega)
    have hp : pst (42, nx, q1, q2, ts) lv st σ = some (nx, lv, .ref σ.1 :: r.map ρ, sNew σ kd (rk kd).2 (fun _ => rowV (rk kd).1)) := by
      show f_newa _ _ _ _ = _
      unfold f_newa
      rw [hst]
      simp only
      rw [hkd, if_pos evn]
    have hself : σ.1 ∈ sL (sNew σ kd (rk kd).2 (fun _ => rowV (rk kd).1)) := List.mem_append_right _ (List.mem_singleton.mpr rfl)
    split at h2
    · rename_i hse
      have J0 := I.alloc hw (kd := kd) (n := (rk kd).2) (f := fun _ => rowV (rk kd).1) hfl hui hnk true (fun _ j _ => seal0_ok h20 hse j)
      have hz1 : (fun a => Z a ∨ (true = true ∧ a = σ.1)) σ.1 := Or.inr ⟨rfl, rfl⟩
      have hk1 : sK (sNew σ kd (rk kd).2 (fun _ => rowV (rk kd).1)) σ.1 = (aRef kd).2.1.toNat := (sNew_selfK _ _ _ _).trans (by show kd = ((kd : Nat) : Int).toNat; omega)
      have hw1 : wfB ((α.1, α.2.1, α.2.2.1, α.2.2.2.1, α.2.2.2.2.1 + 1, α.2.2.2.2.2 + (rk kd).2) : AS) = true := hw
      have J1 := J0.push hw1 (e := (aRef kd, 0, 0)) (v := .ref σ.1) (Or.inr (Or.inr (Or.inl ⟨rfl, σ.1, rfl, hz1, hk1⟩))) (by show ¬ (2 : Nat) = 4; decide) (Or.inl rfl) (l := r) (wf_tl1 hw hs)
      exact ⟨nx, lv, _, _, anewA α kd r, _, _, hp, h2, J1⟩
    · obtain ⟨hrr, h2⟩ := kN h2
      have J0 := I.alloc hw (kd := kd) (n := (rk kd).2) (f := fun _ => rowV (rk kd).1) hfl hui hnk false (fun h => by cases h)
      generalize hα1 : ((α.1, α.2.1, α.2.2.1, α.2.2.2.1, α.2.2.2.2.1 + 1, α.2.2.2.2.2 + (rk kd).2) : AS) = α1 at J0
      have hw1 : wfB α1 = true := by rw [← hα1]; exact hw
      have n1 : α1.1.length = α.1.length := by rw [← hα1]
      have hnz : ¬ (fun a => Z a ∨ (false = true ∧ a = σ.1)) σ.1 := by
        intro hz
        rcases hz with hz | ⟨hz, _⟩
        · have := I.1.2.2.2.2.2.2 _ (I.1.2.2.2.2.2.1 _ hz).1
          omega
        · cases hz
      have J1 := J0.pushR hw1 (e := (aRaw kd, 0, 0)) (v := .ref σ.1) (Or.inr (Or.inr (Or.inr (Or.inr (Or.inl ⟨rfl, σ.1, rfl, hself, hnz, (sNew_selfK _ _ _ _).trans (by show kd = ((kd : Nat) : Int).toNat; omega)⟩)))))
        (fun _ => ⟨fun i e' he _ => fresh4 I i e' (by rw [← hα1] at he; exact he), fun b hb h0 => by cases hb; exact Nat.lt_irrefl _ (I.1.2.2.2.2.2.2 _ (I.2.1.1 _ h0).1)⟩) (Or.inl rfl) (l := []) (fun q hq => by cases hq)
      have hw2 : wfB (anew α1 (aRaw kd, 0, 0) []) = true := wf_new hw1 (l := [α1.1.length]) (fun q hq => by simp at hq; omega) rfl
      have J2 := J1.push hw2 (e := (aNull, 0, 0)) (v := .null) okA.nul (by simp [aNull]) (Or.inl rfl) (l := []) (fun q hq => by cases hq)
      have l2 : (anew α1 (aRaw kd, 0, 0) []).1.length = α.1.length + 1 := by show (α1.1 ++ [_]).length = _; rw [List.length_append, n1]; rfl
      rw [l2, n1] at J2
      generalize hρ : ru (ru ρ α.1.length (.ref σ.1)) (α.1.length + 1) .null = ρ4 at J2
      have p0 : ρ4 α.1.length = .ref σ.1 := by rw [← hρ, ru_ne _ (by omega), ru_self]
      have p1 : ρ4 (α.1.length + 1) = .null := by rw [← hρ, ru_self]
      have hps : r.map ρ4 = r.map ρ := by
        refine List.map_congr_left (fun q hq => ?_)
        have := wf_tl1 hw hs q hq
        rw [← hρ, ru_ne _ (by omega), ru_ne _ (by omega)]
      have J5 := J2.st (α.1.length :: r)
      rw [List.map_cons, p0, hps] at J5
      refine ⟨nx, lv, _, _, anewQ α kd r, ρ4, (fun a => Z a ∨ (false = true ∧ a = σ.1)), hp, h2, ?_⟩
      subst hα1
      have eenv : α.1 ++ [(aRaw kd, 0, 0)] ++ [(aNull, 0, 0)] = α.1 ++ [(aRaw kd, 0, 0), (aNull, 0, 0)] := by simp
      obtain ⟨⟨g1, g2, g3, g4, g5, g6⟩, r1, r2, r3, r4⟩ := J5
      refine ⟨⟨?_, g2, g3, ?_, ?_, g6⟩, r1, r2, r3, ?_⟩
      · show ∀ (i : Nat) (e : AE), (α.1 ++ [(aRaw kd, 0, 0), (aNull, 0, 0)])[i]? = some e → _
        rw [← eenv]; exact g1
      · intro c hc
        rcases List.mem_append.mp hc with hc | hc
        · obtain ⟨j, hj, e⟩ := List.mem_map.mp hc
          subst e
          refine Or.inr ⟨σ.1, p0, Or.inl ⟨rfl, ?_⟩⟩
          show sV (sNew σ kd (rk kd).2 (fun _ => rowV (rk kd).1)) σ.1 ((j : Int).toNat) = ρ4 (α.1.length + 1)
          rw [sNew_selfV, p1]
          unfold rowRef at hrr
          rw [Bool.and_eq_true, decide_eq_true_eq, decide_eq_true_eq] at hrr
          unfold rowV
          rw [if_neg (by omega), if_neg (by omega)]
        · exact g4 c hc
      · show ∀ (i j : Nat) (e e' : AE), (α.1 ++ [(aRaw kd, 0, 0), (aNull, 0, 0)])[i]? = some e → (α.1 ++ [(aRaw kd, 0, 0), (aNull, 0, 0)])[j]? = some e' → _
        rw [← eenv]; exact g5
      · show _ ≤ (α.1 ++ [(aRaw kd, 0, 0), (aNull, 0, 0)]).length ∧ ∀ (i : Nat) (e : AE) (b : Nat), (α.1 ++ [(aRaw kd, 0, 0), (aNull, 0, 0)])[i]? = some e → _
        rw [← eenv]; exact r4
  · cases h
/-- every instruction -/
theorem ast_ok (hw : wfB α = true) (I : Inv X rw Z0 σ0 vs Z ρ α lv st σ) {q : PI} (h : ast X q α k = true) : Nx X rw Z0 σ0 vs q lv st σ k := by
  obtain ⟨op, nx, q1, q2, ts⟩ := q
  match op, h with
  | 0, h => exact o0 hw I h
  | 1, h => exact o1 hw I h
  | 2, h => exact o2 hw I h
  | 3, h => exact o3 hw I h
  | 4, h => exact o4 hw I h
  | 5, h => exact o5 hw I h
  | 6, h => exact o6 hw I h
  | 7, h => exact o7 hw I h
  | 8, h => exact o8 hw I h
  | 9, h => exact o9 hw I h
  | 10, h => exact o10 hw I h
  | 11, h => exact o11 hw I h
  | 12, h => exact o12 hw I h
  | 13, h => exact o13 hw I h
  | 14, h => exact o14 hw I h
  | 15, h => exact o15 hw I h
  | 16, h => exact o16 hw I h
  | 17, h => exact o17 hw I h
  | 18, h => exact o18 I h
  | 19, h => exact o19 I h
  | 20, h => exact o20 I h
  | 21, h => exact o21 I h
  | 22, h => exact o22 hw I h
  | 23, h => exact o23 hw I h
  | 24, h => exact o24 hw I h
  | 25, h => exact o25 hw I h
  | 26, h => exact o26 hw I h
  | 27, h => exact o27 hw I h
  | 28, h => exact o28 hw I h
  | 29, h => exact o29 hw I h
  | 30, h => exact o30 hw I h
  | 31, h => exact o31 hw I h
  | 32, h => cases h
  | 33, h => exact o33 hw I h
  | 34, h => exact o34 hw I h
  | 35, h => exact o35 hw I h
  | 36, h => cases h
  | 37, h => cases h
  | 38, h => cases h
  | 39, h => cases h
  | 40, h => cases h
  | 41, h => exact o41 hw I h
  | 42, h => exact o42 hw I h
  | 43, h => exact o43 hw I h
  | 44, h => exact o44 hw I h
  | 45, h => exact o45 hw I h
  | n + 46, h => cases h
end MK
