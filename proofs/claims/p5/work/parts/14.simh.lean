section XR
variable {p : Program} {l : Launch} {e : Env} {R : Room} {s : State} {m : MethodId} {args : Array Value} {below : List Frame} {meth : Method} {c : Code} {H : Heap} {locs : List Loc} {cells slots : Nat} {Q : State → Prop} {g : JFrame}
/-- what the walk knows of the heap's size: it may be used at any point -/
theorem x_know (kk : H.size ≤ s.heap.size + cells → W p l e R s m args below meth c H locs cells slots Q g) : W p l e R s m args below meth c H locs cells slots Q g := fun T hT X => by
  have h := X.same
  have e1 : (T.setVm s.vm).heap = H := hT
  exact kk (by rw [← e1]; exact h.2.2.1) T hT X
end XR
theorem pis_ok {σ : ps} {a k : Nat} (h : pis σ a k = true) : a ∈ sL σ ∧ sK σ a = k := by
  unfold pis at h
  rw [Bool.and_eq_true, decide_eq_true_eq, beq_iff_eq] at h
  exact h
theorem isRow_ok {σ : ps} {a k : Nat} (h : isRow σ a k = true) : a ∈ sL σ ∧ 14 ≤ sK σ a ∧ (rk (sK σ a)).1 = k := by
  unfold isRow at h
  rw [Bool.and_eq_true, Bool.and_eq_true, decide_eq_true_eq, decide_eq_true_eq, beq_iff_eq] at h
  exact h
theorem isRowQ_ok {σ : ps} {a : Nat} (h : isRowQ σ a = true) : a ∈ sL σ ∧ 14 ≤ sK σ a ∧ 4 ≤ (rk (sK σ a)).1 ∧ (rk (sK σ a)).1 < 11 := by
  unfold isRowQ at h
  rw [Bool.and_eq_true, Bool.and_eq_true, Bool.and_eq_true, decide_eq_true_eq, decide_eq_true_eq, decide_eq_true_eq, decide_eq_true_eq] at h
  exact h
theorem pin_ok {i : Int32} {n : Nat} (h : pin i n = true) : vp_in i n := by
  unfold pin at h
  rw [Bool.and_eq_true, Bool.not_eq_true', decide_eq_false_iff_not, decide_eq_true_eq] at h
  intro h1
  rcases h1 with h1 | h1
  · exact h.1 h1
  · omega
theorem pW_at (cy : Nat → ClassId) {σ : ps} {a : Nat} (hL : a ∈ sL σ) : ∃ k : Nat, (pW cy σ)[k]? = some (a, pF cy σ a) := va_pl_get (X := []) hL
theorem pW_set {cy : Nat → ClassId} {σ σ' : ps} {A : Nat → Prop} {a k : Nat} {e : va_E} (hD : va_D A (pW cy σ)) (hL : a ∈ sL σ) (hk : (pW cy σ)[k]? = some (a, pF cy σ a)) (hL' : sL σ' = sL σ) (he : ∀ b, va_up (pF cy σ) a e b = pF cy σ' b) : (pW cy σ).set k (a, e) = pW cy σ' := by
  have h := va_pl_set (X := []) (e := e) hD hL hk
  unfold pW
  rw [hL', ← va_pl_congr he]
  exact h
theorem va_S.rf' {A : Nat → Prop} {H0 H : Heap} {locs : List Loc} (h : va_S A H0 H locs) : va_S A H H locs := ⟨Nat.le_refl _, fun _ _ _ => rfl, h.2.2⟩
theorem va_S.tr {A : Nat → Prop} {H0 H H1 : Heap} {locs locs1 : List Loc} (h : va_S A H0 H locs) (h1 : va_S A H H1 locs1) : va_S A H0 H1 locs1 :=
  ⟨Nat.le_trans h.1 h1.1, fun q a b => (h1.2.1 q (Nat.lt_of_lt_of_le a h.1) b).trans (h.2.1 q a b), h1.2.2⟩
theorem rowF_i {c : Nat} {f : Nat → Value} (h : c < 4) (h2 : ¬ c = 2) : rowF c f = .inl (fun i => toI (f i)) := by
  unfold rowF
  rw [if_neg h2, if_pos h]
theorem rowF_l {f : Nat → Value} : rowF 2 f = .inr (.inl (fun i => toL (f i))) := rfl
theorem rowF_q {c : Nat} {f : Nat → Value} (h : 4 ≤ c) : rowF c f = .inr (.inr (.inr (.inr (fun i => toQ (f i))))) := by
  unfold rowF
  rw [if_neg (by omega), if_neg (by omega)]
theorem xT_q {cy : Nat → ClassId} {c : Nat} (h : 4 ≤ c) (h2 : c < 11) : (xT cy)[c]? = some (cy c, .object (RS (rowC c))) := by
  match c, h, h2 with
  | 4, _, _ => rfl
  | 5, _, _ => rfl
  | 6, _, _ => rfl
  | 7, _, _ => rfl
  | 8, _, _ => rfl
  | 9, _, _ => rfl
  | 10, _, _ => rfl
  | c + 11, _, h => exact absurd h (by omega)
theorem xAO_q {D : va_G} {cy : Nat → ClassId} {U : State} (hK : xK D cy U) {c : Nat} (h : 4 ≤ c) (h2 : c < 11) : va_AO (RS (rowC c)) U := by
  match c, h, h2 with
  | 4, _, _ => exact ao2 hK
  | 5, _, _ => exact ao3 hK
  | 6, _, _ => exact ao5 hK
  | 7, _, _ => exact ao6 hK
  | 8, _, _ => exact ao8 hK
  | 9, _, _ => exact ao9 hK
  | 10, _, _ => exact ao10 hK
  | c + 11, _, h => exact absurd h (by omega)
theorem rowC_lt {c : Nat} (h2 : c < 11) : rowC c < 14 := by
  match c, h2 with
  | 0, _ => decide
  | 1, _ => decide
  | 2, _ => decide
  | 3, _ => decide
  | 4, _ => decide
  | 5, _ => decide
  | 6, _ => decide
  | 7, _ => decide
  | 8, _ => decide
  | 9, _ => decide
  | 10, _ => decide
  | c + 11, h => exact absurd h (by omega)
theorem toI_up {f : Nat → Value} {j : Nat} {x : Int32} : upd (fun i => toI (f i)) j x = fun i => toI (if i = j then .int x else f i) := by
  funext i
  by_cases h : i = j
  · subst h; simp [upd, toI]
  · simp [upd, h]
theorem toL_up {f : Nat → Value} {j : Nat} {x : Int64} : vp_updL (fun i => toL (f i)) j x = fun i => toL (if i = j then .long x else f i) := by
  funext i
  by_cases h : i = j
  · subst h; simp [vp_updL, toL]
  · simp [vp_updL, h]
theorem toQ_up {f : Nat → Value} {j x : Nat} : va_up (fun i => toQ (f i)) j (some x) = fun i => toQ (if i = j then .ref x else f i) := by
  funext i
  by_cases h : i = j
  · subst h; simp [va_up, toQ]
  · simp [va_up, h]
section SIMH
variable {p : Program} {l : Launch} {e : Env} {R : Room} {s : State} {m : MethodId} {args : Array Value} {below : List Frame} {meth : Method} {c : Code} {Q : State → Prop} {D : va_G} {cy : Nat → ClassId} {A : Nat → Prop} {mi s0 pc pc' : Nat} {lv lv' : LV} {st st' : List Value} {σ σ' : ps} {q : PI}
theorem s_get (F : Fx p s m args meth c D cy mi) (hok : okFld mi pc q .getfield) (hp : f_get q lv st σ = some (pc', lv', st', σ')) (kk : (KK p l e R s m args below meth c Q D cy A mi s0 pc' lv' st' σ')) : (KK p l e R s m args below meth c Q D cy A mi s0 pc lv st σ) := by
  intro ls H locs cells slots hW
  unfold f_get at hp
  split at hp
  · rename_i a r
    split at hp
    · rename_i hc
      cases hp
      obtain ⟨idx, h1, h2, h3, h4, h5⟩ := hok
      obtain ⟨hL, hk⟩ := pis_ok hc
      obtain ⟨q0, h0⟩ := pW_at cy hL
      rw [pF_obj hk h3] at h0
      refine va_get (D := D) (ci := q.2.2.1.toNat) F.1 F.2.1 F.2.2.2.1 (kG _ h3) F.2.2.2.2.1 F.2.2.2.2.2.2.2.2.1 hW.2.1 q0 h0 (kcl _ h3) q.2.2.2.1.toNat h4 (F.2.2.2.1 _ h5) (by rw [ktd _ h3 _ h4]; exact fun x h => h) (v := sV σ a q.2.2.2.1.toNat) ?_ h1 (h2 ▸ kk _ _ _ _ _ hW)
      rw [List.getElem?_map, List.getElem?_range h4]; rfl
    · cases hp
  · cases hp
theorem s_put (F : Fx p s m args meth c D cy mi) (hok : okFld mi pc q .putfield ∧ okFin mi q) (hp : f_put q lv st σ = some (pc', lv', st', σ')) (kk : (KK p l e R s m args below meth c Q D cy A mi s0 pc' lv' st' σ')) : (KK p l e R s m args below meth c Q D cy A mi s0 pc lv st σ) := by
  intro ls H locs cells slots hW
  unfold f_put at hp
  split at hp
  · rename_i v a r
    split at hp
    · rename_i hc
      rw [Bool.and_eq_true] at hc
      cases hp
      obtain ⟨⟨idx, h1, h2, h3, h4, h5⟩, hfin⟩ := hok
      obtain ⟨hL, hk⟩ := pis_ok hc.1
      obtain ⟨hf1, hf2⟩ := pfit_ok hc.2
      obtain ⟨q0, h0⟩ := pW_at cy hL
      have h0' := h0
      rw [pF_obj hk h3] at h0
      rcases hfin with hfin | ⟨hfin, hini, hcls⟩
      · refine va_put (D := D) (ci := q.2.2.1.toNat) F.1 F.2.1 F.2.2.2.1 (kG _ h3) (tyS q.2.2.1.toNat) (kty _ h3) (knm _ h3) F.2.2.2.2.1 F.2.2.2.2.2.2.2.2.1 hW.2.1 hW.2.2.1 hW.2.2.2.1.rf' q0 h0 (kcl _ h3) q.2.2.2.1.toNat h4 (F.2.2.2.1 _ h5) (by rw [ktd _ h3 _ h4]; exact fun x h => h) hfin (kty _ h3 _ h4) hf2 hf1 (by rw [List.length_map, List.length_range]; exact h4) h1 (fun H1 locs1 hP1 hD1 hS1 => ?_)
        rw [pW_set (σ' := sPut σ a q.2.2.2.1.toNat v) hW.2.2.1 hL h0' rfl (fun b => pF_put hk h3 b)] at hP1 hD1
        refine x_know (fun hz => ?_)
        exact h2 ▸ kk _ _ _ _ _ ⟨hW.1, hP1, hD1, hW.2.2.2.1.tr hS1, Nat.le_antisymm (by have := hW.2.2.2.2.2.1; simp only [sPut]; omega) (by have := hW.2.2.2.2.1; have := hS1.1; simp only [sPut]; omega), hW.2.2.2.2.2.1, hW.2.2.2.2.2.2⟩
      · refine va_putF (D := D) (ci := q.2.2.1.toNat) F.1 F.2.1 F.2.2.2.1 (kG _ h3) (tyS q.2.2.1.toNat) (kty _ h3) (knm _ h3) F.2.2.2.2.1 F.2.2.2.2.2.2.2.2.1 hW.2.1 hW.2.2.1 hW.2.2.2.1.rf' q0 h0 (kcl _ h3) q.2.2.2.1.toNat h4 (F.2.2.2.1 _ h5) (by rw [ktd _ h3 _ h4]; exact fun x h => h) hfin (F.2.2.2.2.2.2.2.1.trans hini) (by rw [ktd _ h3 _ h4, hcls]) (kty _ h3 _ h4) hf2 hf1 (by rw [List.length_map, List.length_range]; exact h4) h1 (fun H1 locs1 hP1 hD1 hS1 => ?_)
        rw [pW_set (σ' := sPut σ a q.2.2.2.1.toNat v) hW.2.2.1 hL h0' rfl (fun b => pF_put hk h3 b)] at hP1 hD1
        refine x_know (fun hz => ?_)
        exact h2 ▸ kk _ _ _ _ _ ⟨hW.1, hP1, hD1, hW.2.2.2.1.tr hS1, Nat.le_antisymm (by have := hW.2.2.2.2.2.1; simp only [sPut]; omega) (by have := hW.2.2.2.2.1; have := hS1.1; simp only [sPut]; omega), hW.2.2.2.2.2.1, hW.2.2.2.2.2.2⟩
    · cases hp
  · cases hp
theorem s_iald (F : Fx p s m args meth c D cy mi) (hok : ok1 mi pc q .iaload) (hp : f_iald q lv st σ = some (pc', lv', st', σ')) (kk : (KK p l e R s m args below meth c Q D cy A mi s0 pc' lv' st' σ')) : (KK p l e R s m args below meth c Q D cy A mi s0 pc lv st σ) := by
  intro ls H locs cells slots hW
  unfold f_iald at hp
  split at hp
  · rename_i i a r
    split at hp
    · rename_i hc
      rw [Bool.and_eq_true] at hc
      obtain ⟨hL, hk, hr⟩ := isRow_ok hc.1
      split at hp
      · rename_i x hx
        cases hp
        obtain ⟨q0, h0⟩ := pW_at cy hL
        rw [pF_row hk, hr, rowF_i (by decide) (by decide)] at h0
        have hi := pin_ok hc.2
        refine va_iald F.1 F.2.1 F.2.2.2.2.2.2.2.2.1 hW.2.1 q0 1 h0 rfl hi hok.1 ?_
        rw [hx]
        exact hok.2 ▸ kk _ _ _ _ _ hW
      · cases hp
    · cases hp
  · cases hp
theorem s_lald (F : Fx p s m args meth c D cy mi) (hok : ok1 mi pc q .laload) (hp : f_lald q lv st σ = some (pc', lv', st', σ')) (kk : (KK p l e R s m args below meth c Q D cy A mi s0 pc' lv' st' σ')) : (KK p l e R s m args below meth c Q D cy A mi s0 pc lv st σ) := by
  intro ls H locs cells slots hW
  unfold f_lald at hp
  split at hp
  · rename_i i a r
    split at hp
    · rename_i hc
      rw [Bool.and_eq_true] at hc
      obtain ⟨hL, hk, hr⟩ := isRow_ok hc.1
      split at hp
      · rename_i x hx
        cases hp
        obtain ⟨q0, h0⟩ := pW_at cy hL
        rw [pF_row hk, hr, rowF_l] at h0
        have hi := pin_ok hc.2
        refine va_lald F.1 F.2.1 F.2.2.2.2.2.2.2.2.1 hW.2.1 q0 2 h0 rfl hi hok.1 ?_
        rw [hx]
        exact hok.2 ▸ kk _ _ _ _ _ hW
      · cases hp
    · cases hp
  · cases hp
theorem s_bald (F : Fx p s m args meth c D cy mi) (hok : ok1 mi pc q .baload) (hp : f_bald q lv st σ = some (pc', lv', st', σ')) (kk : (KK p l e R s m args below meth c Q D cy A mi s0 pc' lv' st' σ')) : (KK p l e R s m args below meth c Q D cy A mi s0 pc lv st σ) := by
  intro ls H locs cells slots hW
  unfold f_bald at hp
  split at hp
  · rename_i i a r
    split at hp
    · rename_i hc
      rw [Bool.and_eq_true, Bool.or_eq_true] at hc
      have hi := pin_ok hc.2
      split at hp
      · rename_i x hx
        cases hp
        rcases hc.1 with h | h
        · obtain ⟨hL, hk, hr⟩ := isRow_ok h
          obtain ⟨q0, h0⟩ := pW_at cy hL
          rw [pF_row hk, hr, rowF_i (by decide) (by decide)] at h0
          refine va_bald F.1 F.2.1 F.2.2.2.2.2.2.2.2.1 hW.2.1 q0 0 h0 rfl hi hok.1 ?_
          rw [hx]
          exact hok.2 ▸ kk _ _ _ _ _ hW
        · obtain ⟨hL, hk, hr⟩ := isRow_ok h
          obtain ⟨q0, h0⟩ := pW_at cy hL
          rw [pF_row hk, hr, rowF_i (by decide) (by decide)] at h0
          refine va_zald F.1 F.2.1 F.2.2.2.2.2.2.2.2.1 hW.2.1 q0 3 h0 rfl hi hok.1 ?_
          rw [hx]
          exact hok.2 ▸ kk _ _ _ _ _ hW
      · cases hp
    · cases hp
  · cases hp
theorem s_aald (F : Fx p s m args meth c D cy mi) (hok : ok1 mi pc q .aaload) (hp : f_aald q lv st σ = some (pc', lv', st', σ')) (kk : (KK p l e R s m args below meth c Q D cy A mi s0 pc' lv' st' σ')) : (KK p l e R s m args below meth c Q D cy A mi s0 pc lv st σ) := by
  intro ls H locs cells slots hW
  unfold f_aald at hp
  split at hp
  · rename_i i a r
    split at hp
    · rename_i hc
      rw [Bool.and_eq_true] at hc
      obtain ⟨hL, hk, hr1, hr2⟩ := isRowQ_ok hc.1
      have hi := pin_ok hc.2
      obtain ⟨q0, h0⟩ := pW_at cy hL
      rw [pF_row hk, rowF_q hr1] at h0
      split at hp
      · rename_i x hx
        cases hp
        refine va_aldq F.1 F.2.1 F.2.2.2.2.2.2.2.2.1 hW.2.1 q0 _ h0 (xT_q hr1 hr2) hi hok.1 ?_
        rw [hx]
        exact hok.2 ▸ kk _ _ _ _ _ hW
      · rename_i hx
        cases hp
        refine va_aldq F.1 F.2.1 F.2.2.2.2.2.2.2.2.1 hW.2.1 q0 _ h0 (xT_q hr1 hr2) hi hok.1 ?_
        rw [hx]
        exact hok.2 ▸ kk _ _ _ _ _ hW
      · cases hp
    · cases hp
  · cases hp
theorem s_iast (F : Fx p s m args meth c D cy mi) (hok : ok1 mi pc q .iastore) (hp : f_iast q lv st σ = some (pc', lv', st', σ')) (kk : (KK p l e R s m args below meth c Q D cy A mi s0 pc' lv' st' σ')) : (KK p l e R s m args below meth c Q D cy A mi s0 pc lv st σ) := by
  intro ls H locs cells slots hW
  unfold f_iast at hp
  split at hp
  · rename_i x i a r
    split at hp
    · rename_i hc
      rw [Bool.and_eq_true] at hc
      cases hp
      obtain ⟨hL, hk, hr⟩ := isRow_ok hc.1
      have hi := pin_ok hc.2
      obtain ⟨q0, h0⟩ := pW_at cy hL
      have h0' := h0
      rw [pF_row hk, hr, rowF_i (by decide) (by decide)] at h0
      refine va_iast F.1 F.2.1 F.2.2.2.2.2.2.2.2.1 hW.2.1 hW.2.2.1 hW.2.2.2.1.rf' q0 1 h0 rfl hi hok.1 (fun H1 locs1 hP1 hD1 hS1 => ?_)
      rw [← hr] at hP1 hD1
      rw [pW_set (σ' := sPut σ a i.toNatClampNeg (.int x)) hW.2.2.1 hL h0' rfl (fun b => pF_putR hk (by rw [hr, rowF_i (by decide) (by decide), toI_up]) b)] at hP1 hD1
      refine x_know (fun hz => ?_)
      exact hok.2 ▸ kk _ _ _ _ _ ⟨hW.1, hP1, hD1, hW.2.2.2.1.tr hS1, Nat.le_antisymm (by have := hW.2.2.2.2.2.1; simp only [sPut]; omega) (by have := hW.2.2.2.2.1; have := hS1.1; simp only [sPut]; omega), hW.2.2.2.2.2.1, hW.2.2.2.2.2.2⟩
    · cases hp
  · cases hp
theorem s_last (F : Fx p s m args meth c D cy mi) (hok : ok1 mi pc q .lastore) (hp : f_last q lv st σ = some (pc', lv', st', σ')) (kk : (KK p l e R s m args below meth c Q D cy A mi s0 pc' lv' st' σ')) : (KK p l e R s m args below meth c Q D cy A mi s0 pc lv st σ) := by
  intro ls H locs cells slots hW
  unfold f_last at hp
  split at hp
  · rename_i x i a r
    split at hp
    · rename_i hc
      rw [Bool.and_eq_true] at hc
      cases hp
      obtain ⟨hL, hk, hr⟩ := isRow_ok hc.1
      have hi := pin_ok hc.2
      obtain ⟨q0, h0⟩ := pW_at cy hL
      have h0' := h0
      rw [pF_row hk, hr, rowF_l] at h0
      refine va_last F.1 F.2.1 F.2.2.2.2.2.2.2.2.1 hW.2.1 hW.2.2.1 hW.2.2.2.1.rf' q0 2 h0 rfl hi hok.1 (fun H1 locs1 hP1 hD1 hS1 => ?_)
      rw [← hr] at hP1 hD1
      rw [pW_set (σ' := sPut σ a i.toNatClampNeg (.long x)) hW.2.2.1 hL h0' rfl (fun b => pF_putR hk (by rw [hr, rowF_l, toL_up]) b)] at hP1 hD1
      refine x_know (fun hz => ?_)
      exact hok.2 ▸ kk _ _ _ _ _ ⟨hW.1, hP1, hD1, hW.2.2.2.1.tr hS1, Nat.le_antisymm (by have := hW.2.2.2.2.2.1; simp only [sPut]; omega) (by have := hW.2.2.2.2.1; have := hS1.1; simp only [sPut]; omega), hW.2.2.2.2.2.1, hW.2.2.2.2.2.2⟩
    · cases hp
  · cases hp
theorem s_bast (F : Fx p s m args meth c D cy mi) (hok : ok1 mi pc q .bastore) (hp : f_bast q lv st σ = some (pc', lv', st', σ')) (kk : (KK p l e R s m args below meth c Q D cy A mi s0 pc' lv' st' σ')) : (KK p l e R s m args below meth c Q D cy A mi s0 pc lv st σ) := by
  intro ls H locs cells slots hW
  unfold f_bast at hp
  split at hp
  · rename_i x i a r
    split at hp
    · rename_i hc
      rw [Bool.and_eq_true] at hc
      cases hp
      obtain ⟨hL, hk, hr⟩ := isRow_ok hc.1
      have hi := pin_ok hc.2
      obtain ⟨q0, h0⟩ := pW_at cy hL
      have h0' := h0
      rw [pF_row hk, hr, rowF_i (by decide) (by decide)] at h0
      refine va_bast F.1 F.2.1 F.2.2.2.2.2.2.2.2.1 hW.2.1 hW.2.2.1 hW.2.2.2.1.rf' q0 0 h0 rfl hi hok.1 (fun H1 locs1 hP1 hD1 hS1 => ?_)
      rw [← hr] at hP1 hD1
      rw [pW_set (σ' := sPut σ a i.toNatClampNeg (.int (vp_nar .byte x))) hW.2.2.1 hL h0' rfl (fun b => pF_putR hk (by rw [hr, rowF_i (by decide) (by decide), toI_up]) b)] at hP1 hD1
      refine x_know (fun hz => ?_)
      exact hok.2 ▸ kk _ _ _ _ _ ⟨hW.1, hP1, hD1, hW.2.2.2.1.tr hS1, Nat.le_antisymm (by have := hW.2.2.2.2.2.1; simp only [sPut]; omega) (by have := hW.2.2.2.2.1; have := hS1.1; simp only [sPut]; omega), hW.2.2.2.2.2.1, hW.2.2.2.2.2.2⟩
    · split at hp
      · rename_i hc
        rw [Bool.and_eq_true] at hc
        cases hp
        obtain ⟨hL, hk, hr⟩ := isRow_ok hc.1
        have hi := pin_ok hc.2
        obtain ⟨q0, h0⟩ := pW_at cy hL
        have h0' := h0
        rw [pF_row hk, hr, rowF_i (by decide) (by decide)] at h0
        refine va_zast F.1 F.2.1 F.2.2.2.2.2.2.2.2.1 hW.2.1 hW.2.2.1 hW.2.2.2.1.rf' q0 3 h0 rfl hi hok.1 (fun H1 locs1 hP1 hD1 hS1 => ?_)
        rw [← hr] at hP1 hD1
        rw [pW_set (σ' := sPut σ a i.toNatClampNeg (.int (vp_nar .boolean x))) hW.2.2.1 hL h0' rfl (fun b => pF_putR hk (by rw [hr, rowF_i (by decide) (by decide), toI_up]) b)] at hP1 hD1
        refine x_know (fun hz => ?_)
        exact hok.2 ▸ kk _ _ _ _ _ ⟨hW.1, hP1, hD1, hW.2.2.2.1.tr hS1, Nat.le_antisymm (by have := hW.2.2.2.2.2.1; simp only [sPut]; omega) (by have := hW.2.2.2.2.1; have := hS1.1; simp only [sPut]; omega), hW.2.2.2.2.2.1, hW.2.2.2.2.2.2⟩
      · cases hp
  · cases hp
theorem s_aast (F : Fx p s m args meth c D cy mi) (hok : ok1 mi pc q .aastore) (hp : f_aast q lv st σ = some (pc', lv', st', σ')) (kk : (KK p l e R s m args below meth c Q D cy A mi s0 pc' lv' st' σ')) : (KK p l e R s m args below meth c Q D cy A mi s0 pc lv st σ) := by
  intro ls H locs cells slots hW
  unfold f_aast at hp
  split at hp
  · rename_i x i a r
    split at hp
    · rename_i hc
      rw [Bool.and_eq_true, Bool.and_eq_true] at hc
      cases hp
      obtain ⟨hL, hk, hr1, hr2⟩ := isRowQ_ok hc.1
      have hi := pin_ok hc.2.1
      obtain ⟨hLx, hkx⟩ := pis_ok hc.2.2
      obtain ⟨q0, h0⟩ := pW_at cy hL
      have h0' := h0
      rw [pF_row hk, rowF_q hr1] at h0
      obtain ⟨qk, h1⟩ := pW_at cy hLx
      rw [pF_obj hkx (rowC_lt hr2)] at h1
      refine va_astq F.1 F.2.1 F.2.2.2.2.2.2.2.2.1 hW.2.1 hW.2.2.1 hW.2.2.2.1.rf' q0 _ qk _ (r := (RS (rowC (rk (sK σ a)).1), TS (rowC (rk (sK σ a)).1), nF (rowC (rk (sK σ a)).1))) h0 (xT_q hr1 hr2) h1 (kcl _ (rowC_lt hr2)) hi hok.1 (fun H1 locs1 hP1 hD1 hS1 => ?_)
      rw [pW_set (σ' := sPut σ a i.toNatClampNeg (.ref x)) hW.2.2.1 hL h0' rfl (fun b => pF_putR hk (by rw [rowF_q hr1, toQ_up]) b)] at hP1 hD1
      refine x_know (fun hz => ?_)
      exact hok.2 ▸ kk _ _ _ _ _ ⟨hW.1, hP1, hD1, hW.2.2.2.1.tr hS1, Nat.le_antisymm (by have := hW.2.2.2.2.2.1; simp only [sPut]; omega) (by have := hW.2.2.2.2.1; have := hS1.1; simp only [sPut]; omega), hW.2.2.2.2.2.1, hW.2.2.2.2.2.2⟩
    · cases hp
  · cases hp
theorem s_new (F : Fx p s m args meth c D cy mi) (hok : okNew mi pc q) (hRc : σ'.1 ≤ s.heap.size + R.cells) (hRs : σ'.2.1 ≤ s0 + R.slots) (hA : ∀ q, s.heap.size ≤ q → A q) (hp : f_new q lv st σ = some (pc', lv', st', σ')) (kk : (KK p l e R s m args below meth c Q D cy A mi s0 pc' lv' st' σ')) : (KK p l e R s m args below meth c Q D cy A mi s0 pc lv st σ) := by
  intro ls H locs cells slots hW
  obtain ⟨idx, h1, h2, h3, h4, h5, h6⟩ := hok
  cases hp
  obtain ⟨hl, hP, hD, hS, hz, hc1, hc2⟩ := hW
  simp only [sNew] at hRc hRs
  have hKn := F.2.2.2.2.2.2.2.2.1.1 q.2.2.1.toNat _ (kcl _ h3)
  refine W.newcK F.1 F.2.1 F.2.2.2.2.1 (F.2.2.2.1 _ h4) (F.2.2.2.1 _ h5) (F.2.2.2.1 _ h6) rfl h1 (by omega) (by omega) hKn.2.1 hz fun H1 kC hkC e1 z1 o1 => ?_
  have hk : ∀ (k : Nat) (x : Nat × va_E), (pW cy σ)[k]? = some x → H1[x.1]? = H[x.1]? := fun k x hx => o1 x.1 (by rw [← hz]; exact (hP k x hx).lt)
  have hfr : σ.1 ∉ sL σ := fun hm => by
    obtain ⟨k, hk⟩ := pW_at cy hm
    have := (hP k _ hk).lt
    simp only at this
    omega
  have e2 : pW cy σ ++ [(σ.1, pF cy (sNew σ q.2.2.1.toNat (nF q.2.2.1.toNat) (dfv q.2.2.1.toNat)) σ.1)] = pW cy (sNew σ q.2.2.1.toNat (nF q.2.2.1.toNat) (dfv q.2.2.1.toNat)) := by
    unfold pW
    rw [va_pl_push hfr]
    exact va_pl_congr (fun b => pF_new b)
  have hP1 : va_P D vwCl (pW cy (sNew σ q.2.2.1.toNat (nF q.2.2.1.toNat) (dfv q.2.2.1.toNat))) H1 := by
    rw [← e2]
    refine (hP.kept hk).app (fun k x hx => ?_)
    have hz : k < 1 := (List.getElem?_eq_some_iff.mp hx).1
    rw [show k = 0 by omega] at hx
    cases hx
    rw [pF_obj (sNew_selfK _ _ _ _) h3, sNew_selfV]
    refine ⟨_, kcl _ h3, (u_born (tyS q.2.2.1.toNat) F.2.2.2.1 (kG _ h3) hKn hkC e1 (kty _ h3)).to (fun j hj => ?_)⟩
    have hj : j < nF q.2.2.1.toNat := hj
    unfold vp_V dfv
    rw [List.getD_eq_getElem?_getD, List.getElem?_map, List.getElem?_range hj]
    simp [hj]
  have hD1 : va_D A (pW cy (sNew σ q.2.2.1.toNat (nF q.2.2.1.toNat) (dfv q.2.2.1.toNat))) := by rw [← e2]; exact hD.push hP hz.symm (hA _ (by have := hS.1; omega))
  exact h2 ▸ kk _ _ _ _ _ ⟨hl, hP1, hD1, ⟨by have := hS.1; omega, fun x a b => (o1 x (by have := hS.1; omega)).trans (hS.2.1 x a b), hS.2.2⟩, z1, by simp only [sNew]; omega, by simp only [sNew]; omega⟩
theorem cb_le (c : Nat) : componentBytes (newarray.typeOf (arT c)) ≤ 8 := by
  unfold arT
  split
  · decide
  · split
    · decide
    · split <;> decide
theorem pn_clamp {n : Nat} (h : n ≤ 200000) : (Int32.ofNat n).toNatClampNeg = n := by
  have h1 : (nI n).toInt = n := nI_toInt (by omega)
  show (Int32.ofNat n).toInt.toNat = n
  have : (Int32.ofNat n).toInt = n := h1
  omega
theorem pn_nneg {n : Nat} (h : n ≤ 200000) : ¬ Int32.ofNat n < 0 := by
  have h1 : (nI n).toInt = n := nI_toInt (by omega)
  rw [Int32.lt_iff_toInt_lt]
  have h2 : (Int32.ofNat n).toInt = n := h1
  rw [h2, Int32.toInt_zero]
  omega
theorem newa_cls {D : va_G} {cy : Nat → ClassId} {s : State} (hK : va_K D vwCl (xT cy) s) {k : Nat} (h4 : (rk k).1 < 4) {cA : ClassId} (h : s.vm.findClass ("[" ++ (newarray.typeOf (arT (rk k).1)).toString) = some cA) : cA = cy (rk k).1 := by
  generalize (rk k).1 = c at h4 h ⊢
  match c, h4, h with
  | 0, _, h => exact Option.some.inj (h.symm.trans (hK.2 0 _ rfl).2)
  | 1, _, h => exact Option.some.inj (h.symm.trans (hK.2 1 _ rfl).2)
  | 2, _, h => exact Option.some.inj (h.symm.trans (hK.2 2 _ rfl).2)
  | 3, _, h => exact Option.some.inj (h.symm.trans (hK.2 3 _ rfl).2)
  | c + 4, h, _ => exact absurd h (by omega)
theorem newa_cell {k n : Nat} {cA : ClassId} (h4 : (rk k).1 < 4) : arrV cA n (fun _ => defaultValue (newarray.typeOf (arT (rk k).1))) = vp_cell cA (n, rowF (rk k).1 (fun _ => rowV (rk k).1)) := by
  generalize (rk k).1 = c at h4 ⊢
  match c, h4 with
  | 0, _ => rfl
  | 1, _ => rfl
  | 2, _ => rfl
  | 3, _ => rfl
  | c + 4, h => exact absurd h (by omega)
theorem s_newa (F : Fx p s m args meth c D cy mi) (hok : okNewa mi pc q) (hRc : σ'.1 ≤ s.heap.size + R.cells) (hRs : σ'.2.1 ≤ s0 + R.slots) (hA : ∀ q, s.heap.size ≤ q → A q) (hp : f_newa q lv st σ = some (pc', lv', st', σ')) (kk : (KK p l e R s m args below meth c Q D cy A mi s0 pc' lv' st' σ')) : (KK p l e R s m args below meth c Q D cy A mi s0 pc lv st σ) := by
  intro ls H locs cells slots hW
  unfold f_newa at hp
  split at hp
  · rename_i n r
    split at hp
    · rename_i hn
      cases hp
      obtain ⟨hl, hP, hD, hS, hz, hc1, hc2⟩ := hW
      simp only [sNew] at hRc hRs
      obtain ⟨h20, hle, hok⟩ := hok
      have hN : n.toNatClampNeg = (rk q.2.2.1.toNat).2 := by rw [hn]; exact pn_clamp (by omega)
      have hn0 : ¬ n < 0 := by rw [hn]; exact pn_nneg (by omega)
      have hfr : σ.1 ∉ sL σ := fun hm => by
        obtain ⟨k, hk⟩ := pW_at cy hm
        have := (hP k _ hk).lt
        simp only at this
        omega
      have e2 : pW cy σ ++ [(σ.1, pF cy (sNew σ q.2.2.1.toNat (rk q.2.2.1.toNat).2 (fun _ => rowV (rk q.2.2.1.toNat).1)) σ.1)] = pW cy (sNew σ q.2.2.1.toNat (rk q.2.2.1.toNat).2 (fun _ => rowV (rk q.2.2.1.toNat).1)) := by
        unfold pW
        rw [va_pl_push hfr]
        exact va_pl_congr (fun b => pF_new b)
      rcases hok with ⟨h4, h1, h2, h5⟩ | ⟨idx, h4, h6, h1, h2, h5⟩
      · refine va_newaK F.1 F.2.1 (F.2.2.2.1 _ h5) rfl h1 rfl hn0 hN (by have := Nat.mul_le_mul hle (cb_le (rk q.2.2.1.toNat).1); omega) (by omega) (by omega) hz fun H1 cA e1 z1 o1 hAr hNm => ?_
        have hcy : cA = cy (rk q.2.2.1.toNat).1 := newa_cls F.2.2.2.2.2.2.2.2.1 h4 hNm
        subst hcy
        have hcell : ∀ cA : ClassId, arrV cA (rk q.2.2.1.toNat).2 (fun _ => defaultValue (newarray.typeOf (arT (rk q.2.2.1.toNat).1))) = vp_cell cA ((rk q.2.2.1.toNat).2, rowF (rk q.2.2.1.toNat).1 (fun _ => rowV (rk q.2.2.1.toNat).1)) := fun cA => newa_cell h4
        have hk : ∀ (k : Nat) (x : Nat × va_E), (pW cy σ)[k]? = some x → H1[x.1]? = H[x.1]? := fun k x hx => o1 x.1 (by rw [← hz]; exact (hP k x hx).lt)
        have hP1 : va_P D vwCl (pW cy (sNew σ q.2.2.1.toNat (rk q.2.2.1.toNat).2 (fun _ => rowV (rk q.2.2.1.toNat).1))) H1 := by
          rw [← e2]
          refine (hP.kept hk).app (fun k x hx => ?_)
          have hz : k < 1 := (List.getElem?_eq_some_iff.mp hx).1
          rw [show k = 0 by omega] at hx
          cases hx
          rw [pF_row (by rw [sNew_selfK]; omega), sNew_selfK, sNew_selfV]
          show H1[σ.1]? = some (vp_cell _ _)
          rw [e1]
          exact congrArg some (hcell _)
        have hD1 : va_D A (pW cy (sNew σ q.2.2.1.toNat (rk q.2.2.1.toNat).2 (fun _ => rowV (rk q.2.2.1.toNat).1))) := by rw [← e2]; exact hD.push hP hz.symm (hA _ (by have := hS.1; omega))
        exact h2 ▸ kk _ _ _ _ _ ⟨hl, hP1, hD1, ⟨by have := hS.1; omega, fun x a b => (o1 x (by have := hS.1; omega)).trans (hS.2.1 x a b), hS.2.2⟩, z1, by simp only [sNew]; omega, by simp only [sNew]; omega⟩
      · refine W.anew F.1 F.2.1 F.2.2.2.2.1 (F.2.2.2.1 _ h5) (va_AO.use (xAO_q F.2.2.2.2.2.2.2.2 h4 h6)) rfl h1 rfl hn0 (by rw [hN]; omega) (by omega) (by rw [hN]; omega) fun cA kA comp f1 f2 f3 f4 => ?_
        obtain ⟨_, _, _, _, _, f6⟩ := (F.2.2.2.2.2.2.2.2.1.2 _ _ (xT_q h4 h6)).2
        have hcy : cA = cy (rk q.2.2.1.toNat).1 := by rw [f1] at f6; exact Option.some.inj f6
        subst hcy
        rw [hN, hz]
        generalize hH1 : H.push ({ cls := cy (rk q.2.2.1.toNat).1, slots := Array.replicate (rk q.2.2.1.toNat).2 .null, vm := .none } : Cell) = H1
        have z1 : H1.size = σ.1 + 1 := by rw [← hH1, Array.size_push, hz]
        have e1 : H1[σ.1]? = some (arrV (cy (rk q.2.2.1.toNat).1) (rk q.2.2.1.toNat).2 (fun _ => .null)) := by rw [← hH1, ← hz, Array.getElem?_push_size, ← arrV_new]
        have o1 : ∀ q : Nat, q < σ.1 → H1[q]? = H[q]? := fun q hq => by rw [← hH1, Array.getElem?_push, if_neg (by omega)]
        have hcell : ∀ cA : ClassId, arrV cA (rk q.2.2.1.toNat).2 (fun _ => .null) = vp_cell cA ((rk q.2.2.1.toNat).2, rowF (rk q.2.2.1.toNat).1 (fun _ => rowV (rk q.2.2.1.toNat).1)) := fun cA => by
          rw [rowF_q h4, vp_cell_q]
          unfold rowV
          rw [if_neg (by omega), if_neg (by omega)]
          rfl
        have hk : ∀ (k : Nat) (x : Nat × va_E), (pW cy σ)[k]? = some x → H1[x.1]? = H[x.1]? := fun k x hx => o1 x.1 (by rw [← hz]; exact (hP k x hx).lt)
        have hP1 : va_P D vwCl (pW cy (sNew σ q.2.2.1.toNat (rk q.2.2.1.toNat).2 (fun _ => rowV (rk q.2.2.1.toNat).1))) H1 := by
          rw [← e2]
          refine (hP.kept hk).app (fun k x hx => ?_)
          have hz : k < 1 := (List.getElem?_eq_some_iff.mp hx).1
          rw [show k = 0 by omega] at hx
          cases hx
          rw [pF_row (by rw [sNew_selfK]; omega), sNew_selfK, sNew_selfV]
          show H1[σ.1]? = some (vp_cell _ _)
          rw [e1]
          exact congrArg some (hcell _)
        have hD1 : va_D A (pW cy (sNew σ q.2.2.1.toNat (rk q.2.2.1.toNat).2 (fun _ => rowV (rk q.2.2.1.toNat).1))) := by rw [← e2]; exact hD.push hP hz.symm (hA _ (by have := hS.1; omega))
        exact h2 ▸ kk _ _ _ _ _ ⟨hl, hP1, hD1, ⟨by have := hS.1; omega, fun x a b => (o1 x (by have := hS.1; omega)).trans (hS.2.1 x a b), hS.2.2⟩, z1, by simp only [sNew]; omega, by simp only [sNew]; omega⟩
    · cases hp
  · cases hp
theorem s_oinit (F : Fx p s m args meth c D cy mi) (hok : okObj mi pc q) (hfr : fr mi ≤ R.frames) (hlo : lo mi ≤ R.locals) (hp : f_oinit q lv st σ = some (pc', lv', st', σ')) (kk : (KK p l e R s m args below meth c Q D cy A mi s0 pc' lv' st' σ')) : (KK p l e R s m args below meth c Q D cy A mi s0 pc lv st σ) := by
  intro ls H locs cells slots hW
  unfold f_oinit at hp
  split at hp
  · rename_i a r
    split at hp
    · rename_i hc
      cases hp
      obtain ⟨idx, h1, h2, h3, h4, h5⟩ := hok
      refine W.objInit F.1 F.2.1 F.2.2.2.2.1 (F.2.2.2.1 _ h3) (F.2.2.2.1 _ gw27) (F.2.2.2.1 _ gw28) rfl (by rw [F.2.2.1]; exact hW.1.1) rfl h1 (by omega) ?_ (h2 ▸ kk _ _ _ _ _ hW)
      show 2 * 0 + catS _ + 12 ≤ R.locals
      omega
    · cases hp
  · cases hp
theorem s_imin (F : Fx p s m args meth c D cy mi) (hok : okMinI mi pc q) (hfr : fr mi ≤ R.frames) (hlo : lo mi ≤ R.locals) (hRc : σ'.1 ≤ s.heap.size + R.cells) (hRs : σ'.2.1 ≤ s0 + R.slots) (hA : ∀ q, s.heap.size ≤ q → A q) (hp : f_imin q lv st σ = some (pc', lv', st', σ')) (kk : (KK p l e R s m args below meth c Q D cy A mi s0 pc' lv' st' σ')) : (KK p l e R s m args below meth c Q D cy A mi s0 pc lv st σ) := by
  intro ls H locs cells slots hW
  unfold f_imin at hp
  split at hp
  · rename_i y x r
    split at hp
    · rename_i hc
      cases hp
      obtain ⟨idx, h1, h2, h3, h4, h5⟩ := hok
      have e1 := hW.2.2.2.2.2.1
      have e2 := hW.2.2.2.2.2.2
      refine va_mmin F.1 F.2.1 (by rw [F.2.2.1]; exact hW.1.1.symm) F.2.2.2.2.1 (F.2.2.2.1 _ h3) (F.2.2.2.1 _ gw776) (F.2.2.2.1 _ gw15) (F.2.2.2.1 _ gw777) (by omega) ?_ (by omega) (by omega) h1 (h2 ▸ kk _ _ _ _ _ hW)
      show catS _ + 13 ≤ R.locals
      omega
    · cases hp
  · cases hp
theorem s_lmin (F : Fx p s m args meth c D cy mi) (hok : okMinL mi pc q) (hfr : fr mi ≤ R.frames) (hlo : lo mi ≤ R.locals) (hRc : σ'.1 ≤ s.heap.size + R.cells) (hRs : σ'.2.1 ≤ s0 + R.slots) (hA : ∀ q, s.heap.size ≤ q → A q) (hp : f_lmin q lv st σ = some (pc', lv', st', σ')) (kk : (KK p l e R s m args below meth c Q D cy A mi s0 pc' lv' st' σ')) : (KK p l e R s m args below meth c Q D cy A mi s0 pc lv st σ) := by
  intro ls H locs cells slots hW
  unfold f_lmin at hp
  split at hp
  · rename_i y x r
    split at hp
    · rename_i hc
      cases hp
      obtain ⟨idx, h1, h2, h3, h4, h5⟩ := hok
      have e1 := hW.2.2.2.2.2.1
      have e2 := hW.2.2.2.2.2.2
      refine va_mmin_long F.1 F.2.1 (by rw [F.2.2.1]; exact hW.1.1.symm) F.2.2.2.2.1 (F.2.2.2.1 _ h3) (F.2.2.2.1 _ gw825) (F.2.2.2.1 _ gw15) (F.2.2.2.1 _ gw826) (by omega) ?_ (by omega) (by omega) h1 (h2 ▸ kk _ _ _ _ _ hW)
      show catS _ + 15 ≤ R.locals
      omega
    · cases hp
  · cases hp
end SIMH
