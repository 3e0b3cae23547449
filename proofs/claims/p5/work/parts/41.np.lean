def npA : CT := (tC97.1, tC97.2.1, tC97.2.2.1, [], [(5,0),(5,1),(5,2),(5,3),(5,4),(5,5),(12,5),(12,6),(21,0),(23,0)], cNk tC97, 3, 223, 0, 0)
def npB : AS := ([((2,12,0,0,0),0,0),((2,3,0,0,0),0,0),((0,1,5,1,5),0,0),((2,5,0,0,0),0,0),((0,0,1024,0,15),0,0),((2,26,0,0,0),0,0),((0,0,1023,0,15),0,0),((5,0,0,0,0),0,0)],[(0,0),(1,1),(2,2),(3,3)],[3,4,5],[(0,0,5,6),(0,0,6,4),(0,0,4,5),(5,1,4,7)],3,223)
def npJ : AS := ([((2,12,0,0,0),0,0),((2,3,0,0,0),0,0),((0,1,5,1,5),0,0),((2,5,0,0,0),0,0),((0,0,1023,0,15),0,0),((0,0,1024,0,15),0,0),((2,26,0,0,0),0,0)],[(0,0),(1,1),(2,2),(3,3)],[],[(0,0,5,4),(0,0,6,5),(0,0,4,6),(6,1,5,3)],0,0)
def npK : AS := ([((2,12,0,0,0),0,0),((2,3,0,0,0),0,0),((0,1,5,1,5),0,0),((2,5,0,0,0),0,0),((0,0,1023,0,15),0,0),((0,0,1024,0,15),0,0),((2,26,0,0,0),0,0)],[(0,0),(1,1),(2,2),(3,3)],[],[(0,0,5,4),(0,0,6,5),(0,0,4,6),(6,1,5,3)],3,223)
theorem np_a : arun [tC14] npA (0, aent npA, 0) [(52, npB, 0), (53, npJ, 0)] [52, 53] 60 0 (aent npA) = true := by decide +kernel
theorem np_k : achk [tC19, tC21] tC97 [] 60 [(53, npK, 0)] = true := by decide +kernel
theorem np_s : wfB npB = true ∧ ast tC96 (31, 53, 0, 0, []) npB (fun pc β => decide (pc = 53) && amatch 3 β npK 0) = true := ⟨by decide +kernel, by decide +kernel⟩
theorem np_q : pins tC97.1 52 = some (31, 53, 0, 0, []) := by decide +kernel
theorem Rl.mods {X Y : CT} {rw : Nat → Prop} {Z0 Z : Nat → Prop} {σ0 σ : ps} (h : Rl X rw Z0 σ0 Z σ) (hm : (cMod X).all (fun q => inM (cMod Y) q.1 q.2) = true) (hn : (cNk X).all (fun m => (cNk Y).contains m) = true) : Rl Y rw Z0 σ0 Z σ := by
  obtain ⟨a1, a2, a3, a4⟩ := h
  refine ⟨fun a ha => ?_, a2, fun a h1 h2 => ?_, a4⟩
  · obtain ⟨s1, s2, s3⟩ := a1 a ha
    refine ⟨s1, s2, fun j hj => s3 j ?_⟩
    cases hq : inM (cMod X) (sK σ0 a) j with
    | false => rfl
    | true => rw [inM_sub hm hq] at hj; cases hj
  · obtain ⟨t1, t2⟩ := a3 a h1 h2
    refine ⟨?_, t2⟩
    have := List.all_eq_true.mp hn (sK σ a) (by rw [List.contains_iff_mem] at t1; exact t1)
    exact this
theorem countP_lt {p q : Nat → Bool} {w : Nat} : ∀ (l : List Nat), l.Nodup → w ∈ l → p w = true → q w = false → (∀ i, ¬ i = w → q i = p i) → l.countP q + 1 = l.countP p := by
  intro l
  induction l with
  | nil => intro _ h; cases h
  | cons a l ih =>
    intro hn hw h1 h2 h3
    obtain ⟨n1, n2⟩ := List.nodup_cons.mp hn
    by_cases e : a = w
    · subst e
      rw [List.countP_cons, List.countP_cons, h1, h2]
      have : l.countP q = l.countP p := by
        apply List.countP_congr
        intro i hi
        rw [h3 i (fun e => n1 (e ▸ hi))]
      simp [this]
    · have hw' : w ∈ l := by
        rcases List.mem_cons.mp hw with h | h
        · exact absurd h.symm e
        · exact h
      have := ih n2 hw' h1 h2 h3
      rw [List.countP_cons, List.countP_cons, h3 a e]
      omega
theorem nq_put {σ : ps} {b w u : Nat} (hw : w < 1025) (hn : sV σ b w = .null) : nq (sPut σ b w (.ref u)) b + 1 = nq σ b := by
  unfold nq
  refine countP_lt (w := w) _ List.nodup_range (List.mem_range.mpr hw) ?_ ?_ ?_
  · rw [hn]; rfl
  · rw [sPut_self]; simp [isN]
  · intro i hi
    rw [sPut_self]
    simp [hi]
set_option maxHeartbeats 1000000 in
theorem tV97 : Valid tC97 := by
  intro Z0 σ0 vs hT hL hE hJ
  have hlen : vs.length = (cEnv tC97).length := hE.1
  have h3 : vs.length = 3 := hlen
  -- behind the store
  have K : NOK tC97 Z0 σ0 vs (Post tC97 Z0 σ0 vs) (53, npK, 0) := achk_ok (VA_cons tV19 (VA_cons tV21 VA_nil)) hlen (ret_ok hlen) _ np_k _ List.mem_cons_self
  have IA : Inv npA (rwOf npA vs) Z0 σ0 vs Z0 (fun i => vs.getD i .null) (aent npA) (lv_args 0 (vs.take (np npA.1))) [] σ0 := ent_ok (X := npA) hT hL hE (fun h => absurd rfl h)
  have m1 : (cMod npA).all (fun q => inM (cMod tC96) q.1 q.2) = true := by decide +kernel
  have m2 : (cNk npA).all (fun m => (cNk tC96).contains m) = true := by decide +kernel
  have m3 : (cMod npA).all (fun q => inM (cMod tC97) q.1 q.2) = true := by decide +kernel
  have m4 : (cNk npA).all (fun m => (cNk tC97).contains m) = true := by decide +kernel
  have m5 : inM (cMod npA) 26 0 = false := by decide +kernel
  have m6 : (cNk npA).contains 26 = false := by decide +kernel
  refine arun_ok (X := npA) (nd := (0, aent npA, 0)) (rest := [(52, npB, 0), (53, npJ, 0)]) (ms := [52, 53]) (ρ0 := fun i => vs.getD i .null) (us := vs) (P := Post tC97 Z0 σ0 vs) (VA_cons tV14 VA_nil) hlen ?_ ?_ (fun i v h => h) ?_ ?_ 60 0 (aent npA) Z0 _ _ _ σ0 np_a IA
  · intro Z ρ α lv st σ q hw I h
    unfold aret at h
    obtain ⟨_, h⟩ := kN h
    obtain ⟨_, h⟩ := kN h
    cases h
  · intro t ht
    rcases List.mem_cons.mp ht with rfl | ht
    · -- at the store
      intro Z ρ lv st σ I
      have IZ : Inv tC96 (rwOf tC97 vs) Z0 σ0 vs Z ρ npB lv st σ := ⟨I.1, I.2.1.mods m1 m2, ⟨fun _ => I.2.2.1.1 rfl, fun h => absurd rfl h, fun h => absurd rfl h⟩, I.2.2.2⟩
      obtain ⟨pc', lv', st', σ', α', ρ', Z', h1, h2, J⟩ := ast_ok np_s.1 IZ np_s.2
      obtain ⟨hpc, hma⟩ := kN h2
      rw [decide_eq_true_eq] at hpc
      subst hpc
      -- what is stored where
      obtain ⟨b, eb, hb, kb, _, _⟩ := I.1.obj (i := 5) (by decide +kernel)
      obtain ⟨w, ew, w1, w2, _⟩ := I.1.int (i := 4) (by decide +kernel)
      obtain ⟨u, eu, _, _⟩ := ((I.1.ok (i := 3) (by decide +kernel)).1).r (by decide +kernel)
      have en : ρ 7 = .null := ((I.1.ok (i := 7) (by decide +kernel)).1).n (by decide +kernel)
      have hst : st = [.ref u, .int w, .ref b] := by
        rw [I.1.stk (l := [3, 4, 5]) (by decide +kernel)]
        show [ρ 3, ρ 4, ρ 5] = _
        rw [eu, ew, eb]
      have w1 : (0 : Int) ≤ w.toInt := w1
      have w2 : w.toInt ≤ (1024 : Int) := w2
      have kb : sK σ b = 26 := kb
      have hnull : sV σ b w.toNatClampNeg = .null := by
        have c := I.1.2.2.2.1 (5, 1, 4, 7) (by decide +kernel)
        rcases c with ⟨t, _⟩ | ⟨a, ea, c⟩
        · cases t
        · have ea : ρ 5 = .ref a := ea
          rw [eb] at ea
          cases ea
          rcases c with ⟨t, _⟩ | ⟨_, x, ex, c⟩
          · cases t
          · have ex : ρ 4 = .int x := ex
            rw [ew] at ex
            cases ex
            exact c.trans en
      have hσ : σ' = sPut σ b w.toNatClampNeg (.ref u) := by
        rw [hst] at h1
        have h1 : f_aast (31, 53, 0, 0, []) lv [.ref u, .int w, .ref b] σ = some (53, lv', st', σ') := h1
        unfold f_aast at h1
        simp only at h1
        split at h1
        · simp only [Option.some.injEq, Prod.mk.injEq] at h1
          exact h1.2.2.2.symm
        · cases h1
      have hw : w.toNatClampNeg < 1025 := by
        show w.toInt.toNat < 1025
        omega
      have hRB : RB σ0 σ' := by
        intro qa hq
        obtain ⟨q1, q2, q3⟩ := hq
        obtain ⟨t1, t2, t3⟩ := I.2.1.1 qa q1
        have hbq : ∀ b', b' ∈ sL σ → sK σ b' = 26 → b' = qa := by
          intro b' hb' kb'
          by_cases h0 : b' ∈ sL σ0
          · exact q3 b' h0 (((I.2.1.1 b' h0).2.1).symm.trans kb')
          · have := (I.2.1.2.2.1 b' hb' h0).1
            rw [kb', m6] at this
            cases this
        have hbe : b = qa := hbq b hb kb
        have e0 : nq σ qa = nq σ0 qa := by
          unfold nq
          congr 1
          funext i
          rw [t3 i (by rw [q2, inM_row (j' := 0) (by omega)]; exact m5)]
        have e1 : nq σ' qa + 1 = nq σ qa := by
          rw [hσ, ← hbe]
          exact nq_put hw hnull
        obtain ⟨z1, z2⟩ := I.2.2.1.1 rfl
        have z1 : σ.1 ≤ σ0.1 + 3 := z1
        have z2 : σ.2.1 ≤ σ0.2.1 + 223 := z2
        refine ⟨⟨?_, ?_, ?_⟩, ?_, ?_⟩
        · rw [hσ]; exact t1
        · rw [hσ]; exact t2.trans q2
        · rw [hσ]; exact hbq
        · have : σ'.1 = σ.1 := by rw [hσ]; rfl
          omega
        · have : σ'.2.1 = σ.2.1 := by rw [hσ]; rfl
          omega
      have JN : Inv tC97 (rwOf tC97 vs) Z0 σ0 vs Z' ρ' α' lv' st' σ' := ⟨J.1, J.2.1, ⟨fun h => absurd h (by decide +kernel), fun _ => hRB, fun h => absurd rfl h⟩, J.2.2.2⟩
      rw [← h3] at hma
      obtain ⟨ρ2, lv2, J2, b1, b2, b3, _⟩ := amatch_ok JN hma
      exact wp_step np_q (by decide +kernel) (pret_none (by decide +kernel)) h1 (wp_sub b1 b2 b3 (K Z' ρ2 lv2 st' σ' J2))
    · rw [List.mem_singleton] at ht
      subst ht
      intro Z ρ lv st σ I
      obtain ⟨z1, z2⟩ := I.2.2.1.1 rfl
      have JN : Inv tC97 (rwOf tC97 vs) Z0 σ0 vs Z ρ npK lv st σ := ⟨I.1, I.2.1.mods m3 m4, ⟨fun h => absurd h (by decide +kernel), fun _ => RB.of I.2.1 I.1.2.2.2.2.2.2 z1 z2 m5, fun h => absurd rfl h⟩, I.2.2.2⟩
      exact K Z ρ lv st σ JN
  · intro i hi
    have hi : i < 3 := hi
    rw [List.getD_eq_getElem?_getD, List.getElem?_eq_getElem (by omega)]
    rfl
  · intro h
    exact absurd h (by decide +kernel)
