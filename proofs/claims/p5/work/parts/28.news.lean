section NW
variable {X : CT} {rw : Nat → Prop} {Z0 : Nat → Prop} {σ0 : ps} {vs : List Value} {Z : Nat → Prop} {ρ : Nat → Value} {α : AS} {lv : LV} {st : List Value} {σ : ps} {k : Nat → AS → Bool} {nx : Nat} {q1 q2 : Int} {ts : List Nat}
theorem wf_tl3 (hw : wfB α = true) {x y z : Nat} {r : List Nat} (hs : α.2.2.1 = x :: y :: z :: r) : ∀ q ∈ r, q < α.1.length := fun q hq => wf_st hw q (by rw [hs]; exact List.mem_cons_of_mem _ (List.mem_cons_of_mem _ (List.mem_cons_of_mem _ hq)))
theorem nar_b (x : Int32) : vp_nar .byte x = x.toInt8.toInt32 := rfl
theorem nar_z (x : Int32) : vp_nar .boolean x = x &&& 1 := rfl
theorem o29 (hw : wfB α = true) (I : Inv X rw Z0 σ0 vs Z ρ α lv st σ) (h : ast X (29, nx, q1, q2, ts) α k = true) : Nx X rw Z0 σ0 vs (29, nx, q1, q2, ts) lv st σ k := by
  have h : (match α.2.2.1 with
    | v :: i :: x :: r => ((eg α v).1.1 == 0) && (if abfit (rk (akind α x)).1 (eg α v).1 then aastx X α bytes1 v i x r (k nx) else aastx X (α.1 ++ [((0, -128, 127, 0, 15), 0, 0)], α.2) (fun c => c == 0) α.1.length i x r (k nx))
    | _ => false) = true := h
  split at h
  · rename_i v i x r hs
    obtain ⟨h1, h2⟩ := kN h
    rw [beq_iff_eq] at h1
    obtain ⟨u, eu, u1, u2, _⟩ := I.1.int h1
    have hst := I.1.stk hs
    split at h2
    · rename_i hf
      obtain ⟨b, w, α', eb, ew, hb1, h14, hb2, hc, hpin, hk, J⟩ := ast_ I (I.1.ok (by omega)).1 h2
      rw [List.map_cons, List.map_cons, List.map_cons, eb, ew, eu] at hst
      unfold bytes1 at hc
      rw [Bool.or_eq_true, beq_iff_eq, beq_iff_eq] at hc
      unfold abfit at hf
      rw [← hb2] at hf
      refine ⟨nx, lv, _, _, α', ρ, Z, ?_, hk, J⟩
      show f_bast _ _ _ _ = _
      unfold f_bast
      rw [hst]
      simp only
      rcases hc with hc | hc
      · rw [if_pos (by rw [Bool.and_eq_true]; exact ⟨isRow_mk hb1 h14 hc, hpin⟩), eu]
        rw [hc] at hf
        simp only [Bool.and_eq_true, ↓reduceIte, decide_eq_true_eq] at hf
        have e : vp_nar .byte u = u := Int32.toInt_inj.mp (by
          rw [nar_b, Int8.toInt_toInt32, Int32.toInt_toInt8]
          exact Int.bmod_eq_of_le (by omega) (by omega))
        rw [e]
      · have h0 : isRow σ b 0 = false := by
          unfold isRow
          rw [hc]
          simp
        rw [h0, Bool.false_and, if_neg (by decide), if_pos (by rw [Bool.and_eq_true]; exact ⟨isRow_mk hb1 h14 hc, hpin⟩), eu]
        rw [hc] at hf
        simp only [Bool.and_eq_true, decide_eq_true_eq] at hf
        have hf2 := hf.2
        rw [if_neg (by decide)] at hf2
        rw [Bool.and_eq_true, decide_eq_true_eq, decide_eq_true_eq] at hf2
        have e : vp_nar .boolean u = u := by
          rw [nar_z]
          by_cases h0 : u.toInt = 0
          · have : u = 0 := Int32.toInt_inj.mp (by rw [h0]; rfl)
            subst this
            rfl
          · have : u = 1 := Int32.toInt_inj.mp (by rw [show u.toInt = 1 by omega]; rfl)
            subst this
            rfl
        rw [e]
    · have b1 := u.toInt8.le_toInt
      have b2 := u.toInt8.toInt_lt
      have e8 := Int8.toInt_toInt32 u.toInt8
      have J0 := I.push hw (l := []) (e := ((0, -128, 127, 0, 15), 0, 0)) (v := .int (vp_nar .byte u)) (okA.wide (by rw [nar_b]; omega) (by rw [nar_b]; omega)) (by simp) (Or.inl rfl) (fun q hq => by cases hq)
      have J1 := J0.st α.2.2.1
      have J1 : Inv X rw Z0 σ0 vs Z (ru ρ α.1.length (.int (vp_nar .byte u))) (α.1 ++ [((0, -128, 127, 0, 15), 0, 0)], α.2) lv (α.2.2.1.map (ru ρ α.1.length (.int (vp_nar .byte u)))) σ := J1
      have hgn : eg (α.1 ++ [((0, -128, 127, 0, 15), 0, 0)], α.2) α.1.length = ((0, -128, 127, 0, 15), 0, 0) := eg_new (α := α) α.2.2.1
      obtain ⟨b, w, α', eb, ew, hb1, h14, hb2, hc, hpin, hk, J⟩ := ast_ J1 (J1.1.ok (by rw [hgn]; simp)).1 h2
      rw [beq_iff_eq] at hc
      have hm := fun q hq => wf_st hw q hq
      rw [hs] at hm
      have li := hm i (by simp)
      have lx := hm x (by simp)
      rw [ru_ne _ (by omega)] at eb ew
      rw [List.map_cons, List.map_cons, List.map_cons, eb, ew, eu] at hst
      rw [ru_self, map_ru (wf_tl3 hw hs)] at J
      refine ⟨nx, lv, _, _, α', _, Z, ?_, hk, J⟩
      show f_bast _ _ _ _ = _
      unfold f_bast
      rw [hst]
      simp only
      rw [if_pos (by rw [Bool.and_eq_true]; exact ⟨isRow_mk hb1 h14 hc, hpin⟩)]
  · cases h
theorem catA_ok (h : G Z ρ α lv st σ) {s : Nat} (hs : s < α.1.length) : (ρ s).category = catA α s := by
  rw [h.cat hs]
  rfl
theorem catL_ok (h : G Z ρ α lv st σ) {l : List Nat} (hl : ∀ q ∈ l, q < α.1.length) : catS (l.map ρ) = catL α l := by
  unfold catS catL
  rw [List.map_map]
  congr 1
  exact List.map_congr_left (fun q hq => catA_ok h (hl q hq))
theorem o33 (hw : wfB α = true) (I : Inv X rw Z0 σ0 vs Z ρ α lv st σ) (h : ast X (33, nx, q1, q2, ts) α k = true) : Nx X rw Z0 σ0 vs (33, nx, q1, q2, ts) lv st σ k := by
  have h : (match α.2.2.1 with
    | x :: r => decide (catA α x = 1) && k nx (asst α r)
    | _ => false) = true := h
  split at h
  · rename_i x r hs
    obtain ⟨h1, h2⟩ := kN h
    rw [decide_eq_true_eq] at h1
    have hst := I.1.stk hs
    rw [List.map_cons] at hst
    have hx := wf_st hw x (by rw [hs]; simp)
    refine ⟨nx, lv, r.map ρ, σ, _, ρ, Z, ?_, h2, I.st r⟩
    show f_pop _ _ _ _ = _
    unfold f_pop
    rw [hst]
    simp only
    rw [if_pos ((catA_ok I.1 hx).trans h1)]
  · cases h
theorem o34 (hw : wfB α = true) (I : Inv X rw Z0 σ0 vs Z ρ α lv st σ) (h : ast X (34, nx, q1, q2, ts) α k = true) : Nx X rw Z0 σ0 vs (34, nx, q1, q2, ts) lv st σ k := by
  have h : (match α.2.2.1 with
    | x :: r => decide (catA α x = 1) && k nx (asst α (x :: x :: r))
    | _ => false) = true := h
  split at h
  · rename_i x r hs
    obtain ⟨h1, h2⟩ := kN h
    rw [decide_eq_true_eq] at h1
    have hst := I.1.stk hs
    rw [List.map_cons] at hst
    have hx := wf_st hw x (by rw [hs]; simp)
    refine ⟨nx, lv, _, σ, _, ρ, Z, ?_, h2, I.st (x :: x :: r)⟩
    show f_dup _ _ _ _ = _
    unfold f_dup
    rw [hst]
    simp only
    rw [if_pos ((catA_ok I.1 hx).trans h1)]
    rfl
  · cases h
theorem o35 (hw : wfB α = true) (I : Inv X rw Z0 σ0 vs Z ρ α lv st σ) (h : ast X (35, nx, q1, q2, ts) α k = true) : Nx X rw Z0 σ0 vs (35, nx, q1, q2, ts) lv st σ k := by
  have h : (match α.2.2.1 with
    | x :: y :: r => (decide (catA α x = 1) && decide (catA α y = 1)) && k nx (asst α (x :: y :: x :: y :: r))
    | _ => false) = true := h
  split at h
  · rename_i x y r hs
    obtain ⟨h1, h2⟩ := kN h
    rw [Bool.and_eq_true, decide_eq_true_eq, decide_eq_true_eq] at h1
    have hst := I.1.stk hs
    rw [List.map_cons, List.map_cons] at hst
    have hx := wf_st hw x (by rw [hs]; simp)
    have hy := wf_st hw y (by rw [hs]; simp)
    refine ⟨nx, lv, _, σ, _, ρ, Z, ?_, h2, I.st (x :: y :: x :: y :: r)⟩
    show f_dup2 _ _ _ _ = _
    unfold f_dup2
    rw [hst]
    simp only
    rw [if_pos ⟨(catA_ok I.1 hx).trans h1.1, (catA_ok I.1 hy).trans h1.2⟩]
    rfl
  · cases h
theorem o43 (hw : wfB α = true) (I : Inv X rw Z0 σ0 vs Z ρ α lv st σ) (h : ast X (43, nx, q1, q2, ts) α k = true) : Nx X rw Z0 σ0 vs (43, nx, q1, q2, ts) lv st σ k := by
  have h : (match α.2.2.1 with
    | y :: x :: r => (((eg α x).1.1 == 0 && (eg α y).1.1 == 0) && decide (catL α r ≤ 8)) && k nx (anew α (aI (min (eg α x).1.2.1 (eg α y).1.2.1) (min (eg α x).1.2.2.1 (eg α y).1.2.2.1), 0, 0) r)
    | _ => false) = true := h
  split at h
  · rename_i y x r hs
    simp only [Bool.and_eq_true, beq_iff_eq, decide_eq_true_eq] at h
    obtain ⟨⟨⟨hx, hy⟩, hc⟩, h2⟩ := h
    obtain ⟨a, ea, x1, x2, _⟩ := I.1.int hx
    obtain ⟨b, eb, y1, y2, _⟩ := I.1.int hy
    have hst := I.1.stk hs
    rw [List.map_cons, List.map_cons, ea, eb] at hst
    refine ⟨nx, lv, .int (if b < a then b else a) :: r.map ρ, σ, _, _, Z, ?_, h2, I.push hw (okA.mkI ?_ ?_) (aI_ne _ _) (Or.inl rfl) (wf_tl2 hw hs)⟩
    · show f_imin _ _ _ _ = _
      unfold f_imin
      rw [hst]
      simp only
      rw [if_pos (by rw [catL_ok I.1 (wf_tl2 hw hs)]; exact hc)]
    · split <;> (rename_i q; rw [Int32.lt_iff_toInt_lt] at q; omega)
    · split <;> (rename_i q; rw [Int32.lt_iff_toInt_lt] at q; omega)
  · cases h
theorem o44 (hw : wfB α = true) (I : Inv X rw Z0 σ0 vs Z ρ α lv st σ) (h : ast X (44, nx, q1, q2, ts) α k = true) : Nx X rw Z0 σ0 vs (44, nx, q1, q2, ts) lv st σ k := by
  have h : (match α.2.2.1 with
    | y :: x :: r => (((eg α x).1.1 == 1 && (eg α y).1.1 == 1) && decide (catL α r ≤ 8)) && k nx (anew α (aLong, 0, 0) r)
    | _ => false) = true := h
  split at h
  · rename_i y x r hs
    simp only [Bool.and_eq_true, beq_iff_eq, decide_eq_true_eq] at h
    obtain ⟨⟨⟨hx, hy⟩, hc⟩, h2⟩ := h
    obtain ⟨a, ea, _⟩ := I.1.long hx
    obtain ⟨b, eb, _⟩ := I.1.long hy
    have hst := I.1.stk hs
    rw [List.map_cons, List.map_cons, ea, eb] at hst
    refine ⟨nx, lv, .long (if b < a then b else a) :: r.map ρ, σ, _, _, Z, ?_, h2, I.push hw (okA.lng _) (by simp [aLong]) (Or.inl rfl) (wf_tl2 hw hs)⟩
    show f_lmin _ _ _ _ = _
    unfold f_lmin
    rw [hst]
    simp only
    rw [if_pos (by rw [catL_ok I.1 (wf_tl2 hw hs)]; exact hc)]
  · cases h
theorem o45 (hw : wfB α = true) (I : Inv X rw Z0 σ0 vs Z ρ α lv st σ) (h : ast X (45, nx, q1, q2, ts) α k = true) : Nx X rw Z0 σ0 vs (45, nx, q1, q2, ts) lv st σ k := by
  have h : (match α.2.2.1 with
    | x :: r => (oTag (eg α x).1.1 && decide (catL α r ≤ 8)) && k nx (asst α r)
    | _ => false) = true := h
  split at h
  · rename_i x r hs
    simp only [Bool.and_eq_true, decide_eq_true_eq] at h
    obtain ⟨⟨hx, hc⟩, h2⟩ := h
    obtain ⟨b, eb, _⟩ := I.1.obj hx
    have hst := I.1.stk hs
    rw [List.map_cons, eb] at hst
    refine ⟨nx, lv, r.map ρ, σ, _, ρ, Z, ?_, h2, I.st r⟩
    show f_oinit _ _ _ _ = _
    unfold f_oinit
    rw [hst]
    simp only
    rw [if_pos (by rw [catL_ok I.1 (wf_tl1 hw hs)]; exact hc)]
  · cases h
theorem G.refL (h : G Z ρ α lv st σ) {i a : Nat} (hi : i < α.1.length) (e : ρ i = .ref a) : a ∈ sL σ := by
  have hT := h.2.2.2.2.2.1
  have q := (h.1 i _ (eg_get hi)).1
  rw [e] at q
  rcases q with ⟨_, _, q, _⟩ | ⟨_, _, q, _⟩ | ⟨_, b, q, z, _⟩ | ⟨_, q | ⟨b, q, z, _⟩⟩ | ⟨_, b, q, l, _⟩ | ⟨_, q⟩
  · cases q
  · cases q
  · cases q; exact (hT _ z).1
  · cases q
  · cases q; exact (hT _ z).1
  · cases q; exact l
  · cases q
/-- something is made: what was known stays; it may be sealed at once -/
theorem Inv.alloc (hw : wfB α = true) (I : Inv X rw Z0 σ0 vs Z ρ α lv st σ) {kd n : Nat} {f : Nat → Value} (hfl : cFl X = 0) (hui : cUi X = 0) (hnk : (cNk X).contains kd = true) (sd : Bool) (hs : sd = true → ∀ j, j < szK kd → okA (fun a => Z a ∨ a = σ.1) (sL (sNew σ kd n f)) (sK (sNew σ kd n f)) (fty kd j) (f j)) :
    Inv X rw Z0 σ0 vs (fun a => Z a ∨ (sd = true ∧ a = σ.1)) ρ (α.1, α.2.1, α.2.2.1, α.2.2.2.1, α.2.2.2.2.1 + 1, α.2.2.2.2.2 + n) lv st (sNew σ kd n f) := by
  have hT := I.1.2.2.2.2.2.1
  have hlt := I.1.2.2.2.2.2.2
  have hZ : ∀ b, Z b → b ∈ sL σ ∧ (Z b ∨ (sd = true ∧ b = σ.1)) := fun b hb => ⟨(hT b hb).1, Or.inl hb⟩
  have hK : ∀ b ∈ sL σ, sK (sNew σ kd n f) b = sK σ b := fun b hb => sNew_neK kd n f (by have := hlt b hb; omega)
  have hV : ∀ b ∈ sL σ, sV (sNew σ kd n f) b = sV σ b := fun b hb => sNew_neV kd n f (by have := hlt b hb; omega)
  have hL : ∀ b ∈ sL σ, b ∈ sL (sNew σ kd n f) := fun b hb => List.mem_append_left _ hb
  have hmono : ∀ (t : AV) (v : Value), okA Z (sL σ) (sK σ) t v → (t.1 = 4 → ∀ b, v = .ref b → b ∈ sL σ ∧ ¬ Z b) → okA (fun a => Z a ∨ (sd = true ∧ a = σ.1)) (sL (sNew σ kd n f)) (sK (sNew σ kd n f)) t v := by
    intro t v h hr
    refine h.mono hZ hK hL (fun t4 b e hz => ?_)
    obtain ⟨r1, r2⟩ := hr t4 b e
    rcases hz with hz | ⟨_, hz⟩
    · exact r2 hz
    · have := hlt b r1; omega
  refine ⟨⟨?_, I.1.2.1, I.1.2.2.1, ?_, I.1.2.2.2.2.1, ?_, ?_⟩, ?_, ?_, I.2.2.2⟩
  · intro i e he
    have q := I.1.1 i e he
    refine ⟨hmono _ _ q.1 (fun t4 b eb => ?_), q.2⟩
    obtain ⟨b', e', l', z', _⟩ := q.1.w t4
    rw [eb] at e'
    cases e'
    exact ⟨l', z'⟩
  · intro c hc
    have q := I.1.2.2.2.1 c hc
    rcases q with q | ⟨a, ea, q⟩
    · exact Or.inl q
    · have ha := I.1.refL (wf_ch hw c hc).1 ea
      refine Or.inr ⟨a, ea, ?_⟩
      rw [hV a ha]
      exact q
  · intro a ha
    rcases ha with ha | ⟨hsd, ha⟩
    · have q := hT a ha
      refine ⟨hL a q.1, fun j hj => ?_⟩
      rw [hK a q.1] at hj ⊢
      rw [hV a q.1]
      exact hmono _ _ (q.2 j hj) (fun t4 => absurd t4 (fty_ne _ _))
    · subst ha
      refine ⟨List.mem_append_right _ (List.mem_singleton.mpr rfl), fun j hj => ?_⟩
      rw [sNew_selfK] at hj ⊢
      rw [sNew_selfV]
      have := hs hsd j hj
      refine this.mono (fun b hb => ⟨?_, ?_⟩) (fun _ _ => rfl) (fun _ h => h) (fun t4 => absurd t4 (fty_ne _ _))
      · rcases hb with hb | hb
        · exact hL b (hT b hb).1
        · subst hb; exact List.mem_append_right _ (List.mem_singleton.mpr rfl)
      · rcases hb with hb | hb
        · exact Or.inl hb
        · exact Or.inr ⟨hsd, hb⟩
  · intro a ha
    rcases List.mem_append.mp ha with ha | ha
    · have := hlt a ha
      show a < σ.1 + 1
      omega
    · rw [List.mem_singleton] at ha
      subst ha
      exact Nat.lt_succ_self _
  · obtain ⟨r1, r2, r3, r4, r5, r6⟩ := I.2.1
    refine ⟨fun a ha => ?_, fun a ha => Or.inl (r2 a ha), fun a ha hn => ?_, fun a ha hz => ?_, by show _ ≤ σ.1 + 1; omega, by show _ ≤ σ.2.1 + n; omega⟩
    · obtain ⟨s1, s2, s3⟩ := r1 a ha
      refine ⟨hL a s1, (hK a s1).trans s2, fun j hj => ?_⟩
      rw [hV a s1]
      exact s3 j hj
    · rcases List.mem_append.mp ha with ha | ha
      · rw [hK a ha]
        exact r3 a ha hn
      · rw [List.mem_singleton] at ha
        subst ha
        rw [sNew_selfK]
        exact ⟨hnk, r5⟩
    · rcases hz with hz | ⟨_, hz⟩
      · exact r4 a ha hz
      · have := hlt a (r1 a ha).1
        omega
  · obtain ⟨z1, z2, z3⟩ := I.2.2.1
    refine ⟨fun _ => ?_, fun h => absurd hfl h, fun h => absurd hui h⟩
    have := z1 hfl
    refine ⟨?_, ?_⟩
    · show σ.1 + 1 ≤ _ + (_ + 1)
      omega
    · show σ.2.1 + n ≤ _ + (_ + n)
      omega
theorem wf_new (hw : wfB α = true) {e : AE} {l : List Nat} (hl : ∀ q ∈ l, q < α.1.length + 1) (he : e.2.1 = 0) : wfB (α.1 ++ [e], α.2.1, l, α.2.2.2) = true := by
  unfold wfB
  simp only [Bool.and_eq_true, List.all_eq_true, decide_eq_true_eq, Bool.or_eq_true, List.length_append, List.length_cons, List.length_nil]
  refine ⟨fun q hq => ?_, fun q hq => ?_, fun c hc => ?_, fun e' he' => ?_⟩
  · have := wf_lv hw q hq; omega
  · have := hl q hq; omega
  · have := wf_ch hw c hc
    refine ⟨by omega, by omega, ?_⟩
    rcases this.2.2 with h | h
    · exact Or.inl h
    · exact Or.inr (by omega)
  · rcases List.mem_append.mp he' with h | h
    · obtain ⟨i, hi⟩ := List.getElem?_of_mem h
      have := wf_dep hw i e' hi
      omega
    · rw [List.mem_singleton] at h
      subst h
      omega
end NW
