def adc (β : AS) (c : CH) : AS := (β.1, β.2.1, β.2.2.1, c :: β.2.2.2.1, β.2.2.2.2)
/-- a call by hand: what it keeps is told to the check -/
theorem call_keep {X : CT} {Z0 : Nat → Prop} {σ0 : ps} {vs : List Value} {P : Option Value → ps → Prop} {ct : List CT} (hct : VA ct) (hlen : vs.length = (cEnv X).length) {pc : Nat} {q : PI} {α γ : AS} {c : CH} (hq : pins X.1 pc = some q) (h36 : q.1 = 36) (hw : wfB α = true) (h1 : c.1 < α.1.length) (h2 : c.2.2.2 < α.1.length) (h0 : c.2.1 = 0)
    (hc : acall ct X q α (fun pc' β => decide (pc' = q.2.1) && (wfB (adc β c) && amatch (cEnv X).length (adc β c) γ 0)) = true)
    (keep : ∀ (Z : Nat → Prop) (ρ : Nat → Value) (lv : LV) (st : List Value) (σ σ' : ps) (n : Nat) (r : Option Value), Inv X (rwOf X vs) Z0 σ0 vs Z ρ α lv st σ → prun n q.2.2.1.toNat 0 (lv_args 0 (st.take (np q.2.2.1.toNat)).reverse) [] σ = some (r, σ') → chOK ρ σ' c)
    (K : NOK X Z0 σ0 vs P (q.2.1, γ, 0)) : NOK X Z0 σ0 vs P (pc, α, 0) := by
  intro Z ρ lv st σ I
  have gu : ∀ i, i < α.1.length → ((List.range α.1.length).map ρ)[i]? = some (ρ i) := by
    intro i hi
    rw [List.getElem?_map, List.getElem?_range hi]
    rfl
  have hus : ∀ (i : Nat) (v : Value), vs[i]? = some v → ((List.range α.1.length).map ρ)[i]? = some v := by
    intro i v hv
    have hi := (List.getElem?_eq_some_iff.mp hv).1
    have hl : vs.length ≤ α.1.length := I.2.2.2.2.1
    rw [gu i (by omega), I.2.2.2.1 i v hv]
  have I' : Inv X (rwOf X vs) Z0 σ0 ((List.range α.1.length).map ρ) Z ρ α lv st σ := by
    refine ⟨I.1, I.2.1, I.2.2.1, fun i v hv => ?_, by rw [List.length_map, List.length_range]; exact Nat.le_refl _, I.2.2.2.2.2⟩
    have hi := (List.getElem?_eq_some_iff.mp hv).1
    rw [List.length_map, List.length_range] at hi
    rw [gu i hi] at hv
    exact Option.some.inj hv
  refine acall_ok hct hq h36 hw I' hc ?_
  intro α' ρ' Z' st' σ' hr hk J
  obtain ⟨n, r, hr⟩ := hr
  obtain ⟨_, hk⟩ := kN hk
  obtain ⟨_, hk⟩ := kN hk
  have ck := keep Z ρ lv st σ σ' n r I hr
  have e1 : ρ' c.1 = ρ c.1 := J.2.2.2.1 c.1 _ (gu c.1 h1)
  have e2 : ρ' c.2.2.2 = ρ c.2.2.2 := J.2.2.2.1 c.2.2.2 _ (gu c.2.2.2 h2)
  have ck' : chOK ρ' σ' c := by
    rcases ck with ⟨q, _⟩ | ⟨b, eb, q⟩
    · rw [h0] at q; cases q
    · refine Or.inr ⟨b, by rw [e1]; exact eb, ?_⟩
      rcases q with ⟨q1, q2⟩ | ⟨q1, _⟩
      · exact Or.inl ⟨q1, by rw [e2]; exact q2⟩
      · rw [h0] at q1; cases q1
  have J1 := J.sub hus
  have J2 : Inv X (rwOf X vs) Z0 σ0 vs Z' ρ' (adc α' c) lv st' σ' := by
    refine ⟨⟨J1.1.1, J1.1.2.1, J1.1.2.2.1, fun d hd => ?_, J1.1.2.2.2.2⟩, J1.2⟩
    rcases List.mem_cons.mp hd with e | hd
    · rw [e]; exact ck'
    · exact J1.1.2.2.2.1 d hd
  rw [← hlen] at hk
  obtain ⟨ρ2, lv2, J3, b1, b2, b3, _⟩ := amatch_ok J2 hk
  exact wp_sub b1 b2 b3 (K Z' ρ2 lv2 st' σ' J3)
/-- the model's world at a node; its row out is symbol 7 -/
theorem out_wd {X : CT} {rw : Nat → Prop} {Z0 : Nat → Prop} {σ0 : ps} {vs : List Value} {Z : Nat → Prop} {ρ : Nat → Value} {α : AS} {lv : LV} {st : List Value} {σ : ps} (I : Inv X rw Z0 σ0 vs Z ρ α lv st σ) (h0 : (eg α 0).1.1 = 2) (h0' : (eg α 0).1.2.1 = 13) (c52 : (0, 0, 52, 7) ∈ α.2.2.2.1) {so : Nat} (c53 : (0, 0, 53, so) ∈ α.2.2.2.1) (hso : (eg α so).1.1 = 0) :
    ∃ (t : Nat) (s : Int32), ρ 0 = .ref t ∧ Wld t (rowsA σ t) σ ∧ ρ 7 = .ref (rowsA σ t 52) ∧ gI (vw t (rowsA σ t) σ) 53 0 = s ∧ (eg α so).1.2.1 ≤ s.toInt ∧ s.toInt ≤ (eg α so).1.2.2.1 ∧ sK σ t = 13 ∧ Z t := by
  obtain ⟨t, et, zt, kt⟩ := (I.1.ok (i := 0) (by rw [h0]; decide)).1.r h0
  rw [h0'] at kt
  have kt : sK σ t = 13 := kt
  have W := wd_of I.1.2.2.2.2.2.1 I.1.2.2.2.2.2.2 zt kt
  obtain ⟨s, es, s1, s2, _⟩ := I.1.int (i := so) hso
  refine ⟨t, s, et, W, ?_, ?_, s1, s2, kt, zt⟩
  · rw [← ch_fl (i := 0) (j := 52) (I.1.2.2.2.1 _ c52) et]
    exact (W.2.2.1 52 (by decide)).1
  · have := ch_fl (i := 0) (j := 53) (I.1.2.2.2.1 _ c53) et
    unfold gI vw
    rw [if_neg (by decide), this, es]
    rfl
theorem np145 : np 145 = 3 := by decide +kernel
theorem np146 : np 146 = 3 := by decide +kernel
def skE1 : List AE := [((2,13,0,0,0),0,0), ((0,0,7,0,7),0,0), ((0,(-2147483648),2147483647,0,15),0,0), ((2,65,0,0,0),0,0), ((0,0,496,0,0),0,0), ((0,0,1,0,1),0,0), ((0,0,1000,0,15),0,0), ((2,92,0,0,0),0,0)]
def skH1 (a n : Int) : AS := (skE1 ++ [(aI a a,0,0), ((0,0,192,0,15),0,0), ((0,0,1+n,0,15),0,0), ((0,a+1,a+1+18*n,0,15),0,0), (aI n n,0,0)], [(0,0),(1,1),(2,2),(3,3),(4,4),(5,5),(6,8),(7,9)], [], [(0,0,55,10),(0,0,47,6),(0,0,52,7),(0,0,53,11),(7,0,a,12)], 0, 0)
def skM1 (a n : Int) : AS := (skE1 ++ [(aI a a,0,0), ((0,0,191,0,15),0,0), ((0,0,3056,0,0),0,0), ((2,81,0,0,0),0,0), ((0,a+1,a+18*n-17,0,15),0,0), ((0,0,n,0,15),0,0), (aI n n,0,0)], [(0,0),(1,1),(2,2),(3,3),(4,4),(5,5),(6,8),(7,9)], [10,11,0], [(0,0,41,11),(0,0,53,12),(0,0,52,7),(0,0,47,6),(0,0,55,13),(7,0,a,14)], 0, 0)
def skF1 (a n u : Int) : AS := (skE1 ++ [(aI a a,0,0), ((0,0,191,0,15),0,0), ((0,a+1,u,0,15),0,0), ((0,0,1+n,0,15),0,0), (aI n n,0,0)], [(0,0),(1,1),(2,2),(3,3),(4,4),(5,5),(6,8),(7,9)], [], [(0,0,53,10),(0,0,52,7),(0,0,47,6),(0,0,55,11),(7,0,a,12)], 0, 0)
def skN1 (a n : Int) : AS := (skE1 ++ [(aI a a,0,0), ((0,0,191,0,15),0,0), (aI 2 2,0,0), (aAny,0,0), ((0,a+1,a+18*n-1,0,15),0,0), ((0,0,1+n,0,15),0,0), (aI n n,0,0)], [(0,0),(1,1),(2,2),(3,3),(4,4),(5,5),(6,8),(7,9)], [10,11,0], [(0,0,53,12),(0,0,52,7),(0,0,47,6),(0,0,55,13),(7,0,a,14)], 0, 0)
def skB1 : AS := ([((2,13,0,0,0),0,0),((0,0,7,0,7),0,0),((0,(-2147483648),2147483647,0,15),0,0),((2,65,0,0,0),0,0),((0,0,496,0,0),0,0),((0,0,1,0,1),0,0),((0,0,1000,0,15),0,0),((2,92,0,0,0),0,0),((0,3,18,0,15),0,0),((0,1,1,1,1),0,0),((0,0,0,0,0),0,0),((0,0,1,0,1),0,0)],[(0,0),(1,1),(2,2),(3,3),(4,4),(5,5),(6,8)],[9,10,0],[(0,0,52,7),(0,0,47,6),(0,0,53,8),(0,0,55,11)],0,0)
def skG1 (a : Int) : AS := (skE1 ++ [(aI a a,0,0), (aI 0 1,0,0), (aI (a+1) (a+1),0,0), (aI 0 0,0,0)], [(0,0),(1,1),(2,2),(3,3),(4,4),(5,5),(6,8)], [], [(0,0,55,9),(0,0,47,6),(0,0,52,7),(0,0,53,10),(7,0,a,11)], 0, 0)
def skX1 : CT := (153,[(2,13,0,0,0),(0,0,7,0,7),(0,(-2147483648),2147483647,0,15),(2,65,0,0,0),(0,0,496,0,0),(0,0,1,0,1),(0,0,1000,0,15),(2,92,0,0,0)],[(0,0,47,6),(0,0,52,7)],[([(2,13,0,0,0),(0,0,7,0,7),(0,(-2147483648),2147483647,0,15),(2,65,0,0,0),(0,0,496,0,0),(0,0,1,0,1),(0,0,1000,0,15),(2,92,0,0,0)],[],[])],[(13,47),(13,50),(13,53),(13,55),(82,0),(83,0),(84,0),(85,0),(88,0),(89,0),(92,0),(94,0),(96,0)],[],0,0,0,0)
def skC1 : List CT := [tC237, tC238, tC243, tC204, tC247, tC245, tC239]
def ckA1 : Bool := arun skC1 skX1 (0, aent skX1, 0) [(27, skB1, 0)] [27] 69 0 (aent skX1)
def ck01 (a : Int) : Bool := wfB (rst skB1 8 a a) && acall skC1 skX1 (36, 30, 145, 0, [3]) (rst skB1 8 a a) (fun pc' β => decide (pc' = 30) && (wfB (adc β (7,0,a,10)) && amatch 8 (adc β (7,0,a,10)) (skG1 a) 0))
def ck61 (a : Int) : Bool := arun skC1 skX1 (30, skG1 a, 0) [(36, skH1 a 0, 10)] [36] 69 30 (skG1 a)
def ck11 (a n : Int) : Bool := arun skC1 skX1 (36, skH1 a n, 10) [(155, skM1 a (n+1), 0), (167, skN1 a (n+1), 0)] [36, 155, 167] 69 36 (skH1 a n)
def ck21 (a n : Int) : Bool := wfB (skM1 a n) && acall skC1 skX1 (36, 158, 146, 0, [3]) (skM1 a n) (fun pc' β => decide (pc' = 158) && (wfB (adc β (7,0,a,14)) && amatch 8 (adc β (7,0,a,14)) (skF1 a n (a+18*n-1)) 0))
def ck31 (a n : Int) : Bool := arun skC1 skX1 (158, skF1 a n (a+18*n-1), 0) [(167, skN1 a n, 0)] [167] 69 158 (skF1 a n (a+18*n-1))
def ck41 (a n : Int) : Bool := wfB (skN1 a n) && acall skC1 skX1 (36, 170, 145, 0, [3]) (skN1 a n) (fun pc' β => decide (pc' = 170) && (wfB (adc β (7,0,a,14)) && amatch 8 (adc β (7,0,a,14)) (skF1 a n (a+1+18*n)) 0))
def ck51 (a n : Int) : Bool := arun skC1 skX1 (170, skF1 a n (a+1+18*n), 0) [(36, skH1 a n, 10)] [36] 69 170 (skF1 a n (a+1+18*n))
def ckN1 (a : Int) : Bool := [1, 2, 3, 4, 5, 6, 7, 8].all (fun n => ck11 a n && (ck21 a n && (ck31 a n && (ck41 a n && ck51 a n))))
def tC263 : CT := (153,[(2,13,0,0,0),(0,0,7,0,7),(0,(-2147483648),2147483647,0,15),(2,65,0,0,0),(0,0,496,0,0),(0,0,1,0,1),(0,0,1000,0,15)],[(0,0,47,6)],[([(2,13,0,0,0),(0,0,7,0,7),(0,(-2147483648),2147483647,0,15),(2,65,0,0,0),(0,0,496,0,0),(0,0,1,0,1),(0,0,1000,0,15)],[],[])],[(13,47),(13,50),(13,53),(13,55),(82,0),(83,0),(84,0),(85,0),(88,0),(89,0),(92,0),(94,0),(96,0)],[],0,0,0,0)
