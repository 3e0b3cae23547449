def tC400 : CT := (195,[(2,13,0,0,0),(0,0,7,0,7),(0,0,3,0,3),(0,(-2147483648),2147483647,0,15)],[],[([(2,13,0,0,0),(0,0,7,0,7),(0,0,3,0,3),(0,0,23,0,15)],[(0,0,191,0,15)],[]),([(2,13,0,0,0),(0,0,7,0,7),(0,0,3,0,3),(0,(-2147483648),2147483647,0,15)],[(0,(-1),(-1),15,15)],[])],[],[],0,0,0,0)
/-- a contract with one number known -/
def nrw (X Y : CT) (i : Nat) (h : Int) : Bool := (decide (Y.1 = X.1) && (decide (cEnv Y = (cEnv X).set i (aI h h)) && (decide (cCh Y = cCh X) && decide (Y.2.2.2.2 = X.2.2.2.2)))) && (cAlt Y).all (fun a => (cAlt X).any (fun b => (decide (a.2.1 = b.2.1) && decide (a.2.2 = b.2.2)) && (decide (a.1.length = b.1.length) && (List.range b.1.length).all (fun j => aLe (a.1.getD j aNull) (b.1.getD j aNull)))))
theorem nrw_ok {X Y : CT} {i : Nat} {v : Int} (h : nrw X Y i v = true) (hV : Valid Y) {Z : Nat → Prop} {σ : ps} {vs : List Value} (hT : Typed Z σ) (hL : ∀ a ∈ sL σ, a < σ.1) (hE : EntOK X Z σ vs) (hJ : ¬ cUi X = 0 → JJ σ) (hx : ∃ x : Int32, vs[i]? = some (.int x) ∧ x.toInt = v) : wp X.1 0 (lv_args 0 (vs.take (np X.1))) [] σ (Post X Z σ vs) := by
  unfold nrw at h
  obtain ⟨h, ha⟩ := kN h
  obtain ⟨h1, h⟩ := kN h
  obtain ⟨h2, h⟩ := kN h
  obtain ⟨h3, h4⟩ := kN h
  rw [decide_eq_true_eq] at h1 h2 h3 h4
  obtain ⟨x, hx, ex⟩ := hx
  have get : ∀ (j : Nat) (t : AV), (cEnv Y)[j]? = some t → (j = i ∧ t = aI v v) ∨ (¬ j = i ∧ (cEnv X)[j]? = some t) := by
    intro j t ht
    rw [h2] at ht
    by_cases e : j = i
    · subst e
      have hl := (List.getElem?_eq_some_iff.mp ht).1
      rw [List.length_set] at hl
      rw [List.getElem?_set_self hl] at ht
      exact Or.inl ⟨rfl, (Option.some.inj ht).symm⟩
    · rw [List.getElem?_set_ne (fun q => e q.symm)] at ht
      exact Or.inr ⟨e, ht⟩
  have EY : EntOK Y Z σ vs := by
    obtain ⟨E1, E2, E3, E4⟩ := hE
    refine ⟨?_, ?_, ?_, ?_⟩
    · rw [h2, List.length_set]; exact E1
    · intro j t w ht hw
      rcases get j t ht with ⟨e, et⟩ | ⟨_, ht⟩
      · subst e
        subst et
        rw [hx] at hw
        cases hw
        exact okA.mkI (by omega) (by omega)
      · exact E2 j t w ht hw
    · rw [h3]; exact E3
    · intro j t ht t4
      rcases get j t ht with ⟨e, et⟩ | ⟨_, ht⟩
      · subst et
        exact absurd t4 (aI_ne v v)
      · exact E4 j t ht t4
  have eM : cMod Y = cMod X := by show Y.2.2.2.2.1 = X.2.2.2.2.1; rw [h4]
  have eN : cNk Y = cNk X := by show Y.2.2.2.2.2.1 = X.2.2.2.2.2.1; rw [h4]
  have eC : cCe Y = cCe X := by show Y.2.2.2.2.2.2.1 = X.2.2.2.2.2.2.1; rw [h4]
  have eS : cSl Y = cSl X := by show Y.2.2.2.2.2.2.2.1 = X.2.2.2.2.2.2.2.1; rw [h4]
  have eF : cFl Y = cFl X := by show Y.2.2.2.2.2.2.2.2.1 = X.2.2.2.2.2.2.2.2.1; rw [h4]
  have eU : cUi Y = cUi X := by show Y.2.2.2.2.2.2.2.2.2 = X.2.2.2.2.2.2.2.2.2; rw [h4]
  have hw := hV Z σ vs hT hL EY (fun q => hJ (by rw [← eU]; exact q))
  rw [h1] at hw
  refine wp_mono hw ?_
  intro r σ1 hP
  obtain ⟨Z', p1, p2, p3, p4, alt, m, p5⟩ := hP
  refine ⟨Z', p1, p2, ?_, ?_, ?_⟩
  · obtain ⟨a1, a2, a3, a4, a5, a6⟩ := p3
    rw [eM] at a1
    rw [eN] at a3
    refine ⟨a1, a2, a3, fun a hm hz => ?_, a5, a6⟩
    rcases a4 a hm hz with q | ⟨j, t, q1, q2, q3⟩
    · exact Or.inl q
    · rcases get j t q1 with ⟨_, et⟩ | ⟨_, ht⟩
      · subst et
        exact absurd q2 (aI_ne v v)
      · exact Or.inr ⟨j, t, ht, q2, q3⟩
  · obtain ⟨a1, a2, a3⟩ := p4
    rw [eF, eC, eS] at a1
    rw [eF] at a2
    rw [eU] at a3
    exact ⟨a1, a2, a3⟩
  · have q := List.all_eq_true.mp ha alt m
    rw [List.any_eq_true] at q
    obtain ⟨b, hb, q⟩ := q
    obtain ⟨q0, q⟩ := kN q
    obtain ⟨q0, q1⟩ := kN q0
    obtain ⟨q2, q3⟩ := kN q
    rw [decide_eq_true_eq] at q0 q1 q2
    refine ⟨b, hb, ?_⟩
    obtain ⟨b1, b2, b3, b4⟩ := p5
    refine ⟨by rw [← q2]; exact b1, ?_, by rw [← q0]; exact b3, by rw [← q1]; exact b4⟩
    intro j t w ht hw
    have hj := (List.getElem?_eq_some_iff.mp ht).1
    have q4 := List.all_eq_true.mp q3 j (List.mem_range.mpr hj)
    have e1 : b.1.getD j aNull = t := by rw [List.getD_eq_getElem?_getD, ht]; rfl
    have hj' : j < alt.1.length := by omega
    have e2 : alt.1.getD j aNull = alt.1[j] := by rw [List.getD_eq_getElem?_getD, List.getElem?_eq_getElem hj']; rfl
    rw [e1, e2] at q4
    exact aLe_ok q4 (b2 j _ w (List.getElem?_eq_getElem hj') hw)

theorem tV400 : Valid tC400 := by
  intro Z σ vs hT hL hE hJ
  have hl : vs.length = 4 := hE.1
  have hv : vs[1]? = some vs[1] := List.getElem?_eq_getElem (by omega)
  obtain ⟨x, ex, x1, x2, _⟩ := (hE.2.1 1 _ _ rfl hv).i rfl
  have x1 : (0 : Int) ≤ x.toInt := x1
  have x2 : x.toInt ≤ 7 := x2
  rw [ex] at hv
  have hc : x.toInt = 0 ∨ x.toInt = 1 ∨ x.toInt = 2 ∨ x.toInt = 3 ∨ x.toInt = 4 ∨ x.toInt = 5 ∨ x.toInt = 6 ∨ x.toInt = 7 := by omega
  rcases hc with h | h | h | h | h | h | h | h
  · exact nrw_ok (Y := tC401) (i := 1) (v := 0) (by decide +kernel) tV401 hT hL hE hJ ⟨x, hv, h⟩
  · exact nrw_ok (Y := tC402) (i := 1) (v := 1) (by decide +kernel) tV402 hT hL hE hJ ⟨x, hv, h⟩
  · exact nrw_ok (Y := tC403) (i := 1) (v := 2) (by decide +kernel) tV403 hT hL hE hJ ⟨x, hv, h⟩
  · exact nrw_ok (Y := tC404) (i := 1) (v := 3) (by decide +kernel) tV404 hT hL hE hJ ⟨x, hv, h⟩
  · exact nrw_ok (Y := tC405) (i := 1) (v := 4) (by decide +kernel) tV405 hT hL hE hJ ⟨x, hv, h⟩
  · exact nrw_ok (Y := tC406) (i := 1) (v := 5) (by decide +kernel) tV406 hT hL hE hJ ⟨x, hv, h⟩
  · exact nrw_ok (Y := tC407) (i := 1) (v := 6) (by decide +kernel) tV407 hT hL hE hJ ⟨x, hv, h⟩
  · exact nrw_ok (Y := tC408) (i := 1) (v := 7) (by decide +kernel) tV408 hT hL hE hJ ⟨x, hv, h⟩
def tC409 : CT := (196,[(2,13,0,0,0),(0,(-2147483648),2147483647,0,15),(0,(-2147483648),2147483647,0,15)],[],[([(2,13,0,0,0),(0,(-2147483648),2147483647,0,15),(0,(-2147483648),2147483647,0,15)],[(0,(-2147483648),2147483647,0,15)],[])],[(13,3)],[],0,0,0,0)
def tN409 : List ND := [(18,([((2,13,0,0,0),0,0),((0,0,7,0,7),0,0),((0,0,3,0,3),0,0),((0,0,0,0,0),0,0),((0,0,0,0,0),0,0)],[(0,0),(1,1),(2,2),(3,3)],[],[(0,0,3,4)],0,0),0),(18,([((2,13,0,0,0),0,0),((0,0,7,0,7),0,0),((0,0,3,0,3),0,0),((0,1,1,1,1),0,0),((0,0,0,0,0),0,0)],[(0,0),(1,1),(2,2),(3,3)],[],[(0,0,3,4)],0,0),0),(18,([((2,13,0,0,0),0,0),((0,0,7,0,7),0,0),((0,0,3,0,3),0,0),((0,2,2,2,2),0,0),((0,0,0,0,0),0,0)],[(0,0),(1,1),(2,2),(3,3)],[],[(0,0,3,4)],0,0),0),(18,([((2,13,0,0,0),0,0),((0,0,7,0,7),0,0),((0,0,3,0,3),0,0),((0,3,3,3,3),0,0),((0,0,0,0,0),0,0)],[(0,0),(1,1),(2,2),(3,3)],[],[(0,0,3,4)],0,0),0),(18,([((2,13,0,0,0),0,0),((0,0,7,0,7),0,0),((0,0,3,0,3),0,0),((0,4,4,4,4),0,0),((0,0,0,0,0),0,0)],[(0,0),(1,1),(2,2),(3,3)],[],[(0,0,3,4)],0,0),0),(18,([((2,13,0,0,0),0,0),((0,0,7,0,7),0,0),((0,0,3,0,3),0,0),((0,5,5,5,5),0,0),((0,0,0,0,0),0,0)],[(0,0),(1,1),(2,2),(3,3)],[],[(0,0,3,4)],0,0),0),(18,([((2,13,0,0,0),0,0),((0,0,7,0,7),0,0),((0,0,3,0,3),0,0),((0,6,6,6,6),0,0),((0,0,0,0,0),0,0)],[(0,0),(1,1),(2,2),(3,3)],[],[(0,0,3,4)],0,0),0),(18,([((2,13,0,0,0),0,0),((0,0,7,0,7),0,0),((0,0,3,0,3),0,0),((0,7,7,7,7),0,0),((0,0,0,0,0),0,0)],[(0,0),(1,1),(2,2),(3,3)],[],[(0,0,3,4)],0,0),0),(18,([((2,13,0,0,0),0,0),((0,0,7,0,7),0,0),((0,0,3,0,3),0,0),((0,8,8,8,8),0,0),((0,0,0,0,0),0,0)],[(0,0),(1,1),(2,2),(3,3)],[],[(0,0,3,4)],0,0),0),(18,([((2,13,0,0,0),0,0),((0,0,7,0,7),0,0),((0,0,3,0,3),0,0),((0,9,9,9,9),0,0),((0,0,0,0,0),0,0)],[(0,0),(1,1),(2,2),(3,3)],[],[(0,0,3,4)],0,0),0),(18,([((2,13,0,0,0),0,0),((0,0,7,0,7),0,0),((0,0,3,0,3),0,0),((0,10,10,10,10),0,0),((0,0,0,0,0),0,0)],[(0,0),(1,1),(2,2),(3,3)],[],[(0,0,3,4)],0,0),0),(18,([((2,13,0,0,0),0,0),((0,0,7,0,7),0,0),((0,0,3,0,3),0,0),((0,11,11,11,11),0,0),((0,0,0,0,0),0,0)],[(0,0),(1,1),(2,2),(3,3)],[],[(0,0,3,4)],0,0),0),(18,([((2,13,0,0,0),0,0),((0,0,7,0,7),0,0),((0,0,3,0,3),0,0),((0,12,12,12,12),0,0),((0,0,0,0,0),0,0)],[(0,0),(1,1),(2,2),(3,3)],[],[(0,0,3,4)],0,0),0),(18,([((2,13,0,0,0),0,0),((0,0,7,0,7),0,0),((0,0,3,0,3),0,0),((0,13,13,13,13),0,0),((0,0,0,0,0),0,0)],[(0,0),(1,1),(2,2),(3,3)],[],[(0,0,3,4)],0,0),0),(18,([((2,13,0,0,0),0,0),((0,0,7,0,7),0,0),((0,0,3,0,3),0,0),((0,14,14,14,14),0,0),((0,0,0,0,0),0,0)],[(0,0),(1,1),(2,2),(3,3)],[],[(0,0,3,4)],0,0),0),(18,([((2,13,0,0,0),0,0),((0,0,7,0,7),0,0),((0,0,3,0,3),0,0),((0,15,15,15,15),0,0),((0,0,0,0,0),0,0)],[(0,0),(1,1),(2,2),(3,3)],[],[(0,0,3,4)],0,0),0),(18,([((2,13,0,0,0),0,0),((0,0,7,0,7),0,0),((0,0,3,0,3),0,0),((0,16,16,0,0),0,0),((0,0,0,0,0),0,0)],[(0,0),(1,1),(2,2),(3,3)],[],[(0,0,3,4)],0,0),0),(18,([((2,13,0,0,0),0,0),((0,0,7,0,7),0,0),((0,0,3,0,3),0,0),((0,17,17,1,1),0,0),((0,0,0,0,0),0,0)],[(0,0),(1,1),(2,2),(3,3)],[],[(0,0,3,4)],0,0),0),(18,([((2,13,0,0,0),0,0),((0,0,7,0,7),0,0),((0,0,3,0,3),0,0),((0,18,18,2,2),0,0),((0,0,0,0,0),0,0)],[(0,0),(1,1),(2,2),(3,3)],[],[(0,0,3,4)],0,0),0),(18,([((2,13,0,0,0),0,0),((0,0,7,0,7),0,0),((0,0,3,0,3),0,0),((0,19,19,3,3),0,0),((0,0,0,0,0),0,0)],[(0,0),(1,1),(2,2),(3,3)],[],[(0,0,3,4)],0,0),0),(18,([((2,13,0,0,0),0,0),((0,0,7,0,7),0,0),((0,0,3,0,3),0,0),((0,20,20,4,4),0,0),((0,0,0,0,0),0,0)],[(0,0),(1,1),(2,2),(3,3)],[],[(0,0,3,4)],0,0),0),(18,([((2,13,0,0,0),0,0),((0,0,7,0,7),0,0),((0,0,3,0,3),0,0),((0,21,21,5,5),0,0),((0,0,0,0,0),0,0)],[(0,0),(1,1),(2,2),(3,3)],[],[(0,0,3,4)],0,0),0),(18,([((2,13,0,0,0),0,0),((0,0,7,0,7),0,0),((0,0,3,0,3),0,0),((0,22,22,6,6),0,0),((0,0,0,0,0),0,0)],[(0,0),(1,1),(2,2),(3,3)],[],[(0,0,3,4)],0,0),0),(18,([((2,13,0,0,0),0,0),((0,0,7,0,7),0,0),((0,0,3,0,3),0,0),((0,23,23,7,7),0,0),((0,0,0,0,0),0,0)],[(0,0),(1,1),(2,2),(3,3)],[],[(0,0,3,4)],0,0),0),(18,([((2,13,0,0,0),0,0),((0,0,7,0,7),0,0),((0,0,3,0,3),0,0),((0,24,24,8,8),0,0),((0,0,0,0,0),0,0)],[(0,0),(1,1),(2,2),(3,3)],[],[(0,0,3,4)],0,0),0)]
/-- X13 answers -/
theorem tV409 : Valid tC409 := acheck_ok (ct := [tC282, tC400]) (VA_cons tV282 (VA_cons tV400 VA_nil)) (fuel := 11) (nds := tN409) (by decide +kernel)
