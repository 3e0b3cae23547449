theorem st_hosts {N n : Nat} {σ' : ps} (run : prun n 86 0 (lv_args 0 [.ref N]) [] (sNew (s_0 N) 12 (nF 12) (dfv 12)) = some (none, σ')) : ∃ hr, HI N hr 8 σ' := by
  have hk : sK (sNew (s_0 N) 12 (nF 12) (dfv 12)) N = 12 := sNew_selfK (s_0 N) 12 (nF 12) (dfv 12)
  have hm : ∀ a, a ∈ sL (sNew (s_0 N) 12 (nF 12) (dfv 12)) → a = N := fun a ha => by
    have ha : a ∈ ([] : List Nat) ++ [N] := ha
    simpa using ha
  have hN : N ∈ sL (sNew (s_0 N) 12 (nF 12) (dfv 12)) := List.mem_append_right _ (List.mem_singleton.mpr rfl)
  exact pc_hosts (fun a ha => by rw [hm a ha]; exact Nat.lt_succ_self N) hN hk (fun a ha => by rw [hm a ha, hk]; decide) run
/-- the reference's constructor leaves the class's hosts -/
theorem st_keep {x hr n : Nat} {σ σ' : ps} (L : ∀ a ∈ sL σ, a < σ.1) (run : prun n 135 0 (lv_args 0 [.ref σ.1]) [] (sNew σ 13 (nF 13) (dfv 13)) = some (none, σ')) (H : HI x hr 8 σ) : HI x hr 8 σ' := by
  have fr : ∀ a ∈ sL σ, ¬ a = σ.1 := fun a ha e => by have := L a ha; omega
  have hk : sK (sNew σ 13 (nF 13) (dfv 13)) σ.1 = 13 := sNew_selfK σ 13 (nF 13) (dfv 13)
  have hv : sV (sNew σ 13 (nF 13) (dfv 13)) σ.1 = dfv 13 := sNew_selfV σ 13 (nF 13) (dfv 13)
  have ht : σ.1 ∈ sL (sNew σ 13 (nF 13) (dfv 13)) := List.mem_append_right _ (List.mem_singleton.mpr rfl)
  have S1 : Sl σ (sNew σ 13 (nF 13) (dfv 13)) := stp.sl (Or.inr (Or.inr ⟨_, _, _, rfl⟩)) L
  obtain ⟨n', r', s', run', Z', T', L', R, S, al⟩ := tV296 (fun _ => False) (sNew σ 13 (nF 13) (dfv 13)) [.ref σ.1, .long 0, .null, .int 0] (fun a h => h.elim) S1.2 (ent4 ⟨okraw ht (fun h => h) hk, okA.l0, okA.nul, oki0, trivial⟩ (fun c hc => by
    obtain ⟨c1, c2, c4, c3⟩ := dfv13 c hc
    refine Or.inr ⟨σ.1, by rw [c1]; rfl, Or.inl ⟨c2, ?_⟩⟩
    rw [hv, c3]
    generalize c.2.2.2 = k at c4
    cases k with
    | zero => exact absurd rfl c4
    | succ k => rfl) (by decide)) (fun h => absurd rfl h)
  have run' : prun n' 135 0 (lv_args 0 [.ref σ.1]) [] (sNew σ 13 (nF 13) (dfv 13)) = some (r', s') := run'
  have e := prun_det run' run
  cases e
  have mo : ∀ a ∈ sL σ, a ∈ sL σ' ∧ sK σ' a = sK σ a := fun a ha => ⟨(R.1 a (S1.1 a ha).1).1, (R.1 a (S1.1 a ha).1).2.1.trans (S1.1 a ha).2⟩
  have kp : ∀ a ∈ sL σ, ∀ j, inM (cMod tC296) (sK σ a) j = false → sV σ' a j = sV σ a j := fun a ha j hj => by
    rw [(R.1 a (S1.1 a ha).1).2.2 j (by rw [(S1.1 a ha).2]; exact hj), sNew_neV _ _ _ (fr a ha)]
  obtain ⟨⟨i1, i2, i3⟩, ⟨i4, i5⟩, i6, i7, i8, _⟩ := H
  have vh : ∀ i, sV σ' hr i = sV σ hr i := fun i => kp hr i4 i (by rw [i5, inM_row (j' := 0) (by decide)]; decide +kernel)
  refine ⟨⟨(mo x i1).1, (mo x i1).2.trans i2, by rw [kp x i1 0 (by rw [i2]; decide +kernel)]; exact i3⟩, ⟨(mo hr i4).1, (mo hr i4).2.trans i5⟩, fun i hi => ?_, fun i k a hi hk e1 e2 => ?_, fun a ha hk3 => ?_, L'⟩
  · obtain ⟨a, a1, a2, a3⟩ := i6 i hi
    exact ⟨a, by rw [vh]; exact a1, (mo a a2).1, (mo a a2).2.trans a3⟩
  · rw [vh] at e1 e2
    exact i7 i k a hi hk e1 e2
  · by_cases hm : a ∈ sL σ
    · have k3 : sK σ a = 3 := (mo a hm).2.symm.trans hk3
      rw [kp a hm 7 (by rw [k3]; decide +kernel)]
      exact i8 a hm k3
    · exfalso
      by_cases hn : a ∈ sL (sNew σ 13 (nF 13) (dfv 13))
      · have hn : a ∈ sL σ ++ [σ.1] := hn
        rcases List.mem_append.mp hn with q | q
        · exact hm q
        · rw [List.mem_singleton] at q
          subst q
          rw [(R.1 _ ht).2.1, hk] at hk3
          exact absurd hk3 (by decide)
      · have q := (R.2.2.1 a ha hn).1
        rw [hk3] at q
        exact absurd q (by decide)
/-- the loop's first state -/
theorem st_li {N x t qa hr : Nat} {Z : Nat → Prop} {σ : ps} (h : St4 N x t qa Z σ) (HI8 : HI x hr 8 σ) : LI N 0 x t σ.1 qa (sNew σ 38 1 (fun _ => .long 0)).1 (rowsA (sNew σ 38 1 (fun _ => .long 0)) t) (sNew σ 38 1 (fun _ => .long 0)) := by
  obtain ⟨T, L, ⟨zx, kx⟩, u, t9, J, ⟨zt, kt⟩, ⟨r26, e26, l26, v26⟩, ⟨r32, e32, l32, v32⟩, ⟨r4, e4, l4, v4⟩, v47, v0, lt, lx, b1, b2⟩ := h
  have fr : ∀ a ∈ sL σ, ¬ a = σ.1 := fun a ha e => by have := L a ha; omega
  have S1 : Sl σ (sNew σ 38 1 (fun _ => .long 0)) := stp.sl (Or.inr (Or.inr ⟨_, _, _, rfl⟩)) L
  have hm : ∀ a, a ∈ sL (sNew σ 38 1 (fun _ => .long 0)) → a ∈ sL σ ∨ a = σ.1 := fun a ha => by
    have ha : a ∈ sL σ ++ [σ.1] := ha
    simpa using ha
  have hv : ∀ a, a < σ.1 → sV (sNew σ 38 1 (fun _ => .long 0)) a = sV σ a := fun a ha => sNew_neV _ _ _ (by omega)
  have hk : ∀ a, a < σ.1 → sK (sNew σ 38 1 (fun _ => .long 0)) a = sK σ a := fun a ha => sNew_neK _ _ _ (by omega)
  have ks : sK (sNew σ 38 1 (fun _ => .long 0)) σ.1 = 38 := sNew_selfK σ 38 1 (fun _ => .long 0)
  have hT : Typed Z (sNew σ 38 1 (fun _ => .long 0)) := fun a ha => by
    obtain ⟨m, f⟩ := T a ha
    refine ⟨(S1.1 a m).1, fun j hj => ?_⟩
    rw [(S1.1 a m).2] at hj ⊢
    rw [sNew_neV _ _ _ (fr a m)]
    exact (f j hj).mono (fun b hb => ⟨(T b hb).1, hb⟩) (fun b hb => (S1.1 b hb).2) (fun b hb => (S1.1 b hb).1) (fun e b eb => by
      obtain ⟨b', e1, _, nz, _⟩ := (f j hj).w e
      rw [e1] at eb
      cases eb
      exact nz)
  have kt' : sK (sNew σ 38 1 (fun _ => .long 0)) t = 13 := (hk t lt).trans kt
  have W := wd_of hT S1.2 zt kt'
  have RA := fun j (hj : isRw j = true) => rowsA_ok hT zt kt' hj
  have J' : JU (sNew σ 38 1 (fun _ => .long 0)) := by
    intro a b ha hb e hka
    rcases hm a ha with qa' | qa'
    · rcases hm b hb with qb | qb
      · rw [hk a (L a qa'), hk b (L b qb)] at e
        rw [hk a (L a qa')] at hka
        exact J a b qa' qb e hka
      · rw [e, qb, ks] at hka; omega
    · rw [qa', ks] at hka; omega
  have ql := L qa u.1
  have u' : Uq qa (sNew σ 38 1 (fun _ => .long 0)) := by
    refine ⟨(S1.1 qa u.1).1, (S1.1 qa u.1).2.trans u.2.1, fun b hb hkb => ?_⟩
    rcases hm b hb with q | q
    · rw [hk b (L b q)] at hkb; exact u.2.2 b q hkb
    · rw [q, ks] at hkb; exact absurd hkb (by decide)
  have nql : nq (sNew σ 38 1 (fun _ => .long 0)) qa ≤ 1025 := by
    unfold nq
    refine Nat.le_trans List.countP_le_length ?_
    rw [List.length_range]
    exact Nat.le_refl _
  have z1 : (sNew σ 38 1 (fun _ => .long 0)).1 = σ.1 + 1 := rfl
  have z2 : (sNew σ 38 1 (fun _ => .long 0)).2.1 = σ.2.1 + 1 := rfl
  have a26 : rowsA (sNew σ 38 1 (fun _ => .long 0)) t 26 = r26 := by
    have q := (RA 26 (by decide)).1
    rw [hv t lt, e26] at q
    cases q
    rfl
  have a32 : rowsA (sNew σ 38 1 (fun _ => .long 0)) t 32 = r32 := by
    have q := (RA 32 (by decide)).1
    rw [hv t lt, e32] at q
    cases q
    rfl
  have g26 : ∀ i, gI (vw t (rowsA (sNew σ 38 1 (fun _ => .long 0)) t) (sNew σ 38 1 (fun _ => .long 0))) 26 i = 0 := fun i => by
    unfold gI vw
    rw [show isRw 26 = true from rfl, if_pos rfl, a26, hv r26 l26, v26]
    rfl
  have g32 : ∀ i, gI (vw t (rowsA (sNew σ 38 1 (fun _ => .long 0)) t) (sNew σ 38 1 (fun _ => .long 0))) 32 i = 0 := fun i => by
    unfold gI vw
    rw [show isRw 32 = true from rfl, if_pos rfl, a32, hv r32 l32, v32]
    rfl
  have a4 : rowsA (sNew σ 38 1 (fun _ => .long 0)) t 4 = r4 := by
    have q := (RA 4 (by decide)).1
    rw [hv t lt, e4] at q
    cases q
    rfl
  have g4 : ∀ i, gI (vw t (rowsA (sNew σ 38 1 (fun _ => .long 0)) t) (sNew σ 38 1 (fun _ => .long 0))) 4 i = 0 := fun i => by
    unfold gI vw
    rw [show isRw 4 = true from rfl, if_pos rfl, a4, hv r4 l4, v4]
    rfl
  have hc : HC (sNew σ 38 1 (fun _ => .long 0)).1 x t (rowsA (sNew σ 38 1 (fun _ => .long 0)) t) (sNew σ 38 1 (fun _ => .long 0)) := by
    obtain ⟨⟨i1, i2, i3⟩, ⟨i4, i5⟩, i6, i7, i8, _⟩ := HI8
    have lh := L hr i4
    have rf : ∀ i : Nat, i < 8 → sV σ hr i = .ref (match sV σ hr i with | .ref a => a | _ => 0) ∧ (match sV σ hr i with | .ref a => a | _ => 0) ∈ sL σ ∧ sK σ (match sV σ hr i with | .ref a => a | _ => 0) = 3 := fun i hi => by
      obtain ⟨a, a1, a2, a3⟩ := i6 i (by omega)
      rw [a1]
      exact ⟨rfl, a2, a3⟩
    generalize hha : (fun i : Nat => (match sV σ hr i with | .ref a => a | _ => 0)) = ha
    have rf : ∀ i : Nat, i < 8 → sV σ hr i = .ref (ha i) ∧ ha i ∈ sL σ ∧ sK σ (ha i) = 3 := fun i hi => by rw [← hha]; exact rf i hi
    have ll : ∀ i, i < 8 → ha i < σ.1 := fun i hi => L _ (rf i hi).2.1
    have zh : Z hr := by
      have q := (T x zx).2 0 (by rw [kx]; decide)
      rw [kx, i3] at q
      obtain ⟨b, eb, zb, _⟩ := q.r (by decide +kernel)
      cases eb
      exact zb
    have za : ∀ i, i < 8 → Z (ha i) := fun i hi => by
      have q := (T hr zh).2 i (by rw [i5]; exact hi)
      rw [i5, (rf i hi).1] at q
      obtain ⟨b, eb, zb, _⟩ := q.r rfl
      cases eb
      exact zb
    have v8 : ∀ i, i < 8 → ∃ w : Int32, sV σ (ha i) 8 = .int w := fun i hi => by
      have q := (T (ha i) (za i hi)).2 8 (by rw [(rf i hi).2.2]; decide)
      rw [(rf i hi).2.2] at q
      obtain ⟨w, ew, _⟩ := q.i (by decide +kernel)
      exact ⟨w, ew⟩
    have v7 : ∀ i, i < 8 → sV σ (ha i) 7 = .int 0 := fun i hi => i8 _ (rf i hi).2.1 (rf i hi).2.2
    refine ⟨hr, ha, ⟨by rw [hv x lx]; exact i3, fun i hi => by rw [hv hr lh]; exact (rf i hi).1, fun i k hi hk e => ?_, fun i hi => ?_⟩, ⟨(S1.1 hr i4).1, (S1.1 hr i4).2.trans i5, by omega⟩, fun i hi => ⟨(S1.1 _ (rf i hi).2.1).1, (S1.1 _ (rf i hi).2.1).2.trans (rf i hi).2.2, Nat.lt_succ_of_lt (ll i hi)⟩, fun i hi => ?_⟩
    · exact i7 i k (ha i) (by omega) (by omega) (rf i hi).1 (by rw [e]; exact (rf k hk).1)
    · rw [hv _ (ll i hi), v7 i hi]
      obtain ⟨w, ew⟩ := v8 i hi
      rw [ew]
      exact ⟨rfl, rfl⟩
    · have e0 : cO (sNew σ 38 1 (fun _ => .long 0)) ha i = 0 := by
        unfold cO
        rw [hv _ (ll i hi), v7 i hi]
        rfl
      rw [e0, g4]
      exact ⟨rfl, fun z => absurd rfl z⟩
  have g47 : gI (vw t (rowsA (sNew σ 38 1 (fun _ => .long 0)) t) (sNew σ 38 1 (fun _ => .long 0))) 47 0 = 0 := by
    unfold gI vw
    rw [show isRw 47 = false from rfl, if_neg (by decide), hv t lt, v47]
    rfl
  have g0 : gL (vw t (rowsA (sNew σ 38 1 (fun _ => .long 0)) t) (sNew σ 38 1 (fun _ => .long 0))) 0 0 = 0 := by
    unfold gL vw
    rw [show isRw 0 = false from rfl, if_neg (by decide), hv t lt, v0]
    rfl
  refine ⟨Z, ⟨⟨hT, S1.2, zt, kt', W, fun j hj => (RA j hj).2.1, J'⟩, ⟨zx, (hk x lx).trans kx⟩, ⟨List.mem_append_right _ (List.mem_singleton.mpr rfl), ks⟩, ⟨u', by omega, by omega⟩, fun k hk0 => ?_, by omega, by omega, by omega⟩, ⟨⟨0, ?_, g0, by decide, by decide⟩, ?_, ?_, ?_⟩, hc⟩
  · unfold rowsA
    rw [if_neg (by rw [hk0]; decide)]
    omega
  · rw [hv x lx]; exact t9
  · intro q _ h
    rw [g26] at h
    exact absurd h (by decide)
  · intro h k _ h1 h2
    rw [g32] at h2
    have z : (0 : Int32).toInt = 0 := rfl
    omega
  · unfold rg
    rw [g47]
    exact Nat.le_refl _
