def tC431 : CT := (191,[(2,13,0,0,0),(0,(-2147483648),2147483647,0,15),(0,0,1000,0,15)],[(0,0,47,2)],[([(2,13,0,0,0),(0,(-2147483648),2147483647,0,15),(0,0,1000,0,15)],[(0,(-2147483648),2147483647,0,15)],[])],[(13,2),(13,3),(13,47),(13,50),(13,53),(13,55),(13,58),(13,59),(13,60),(47,0),(48,0),(50,0),(51,0),(52,0),(53,0),(54,0),(55,0),(56,0),(57,0),(58,0),(59,0),(61,0),(67,0),(68,0),(69,0),(70,0),(71,0),(72,0),(73,0),(74,0),(75,0),(76,0),(77,0),(78,0),(79,0),(80,0),(81,0),(82,0),(83,0),(84,0),(85,0),(88,0),(89,0),(92,0),(94,0),(96,0),(97,0),(101,0),(102,0),(103,0),(104,0),(105,0),(106,0),(107,0)],[],0,0,0,0)
def gvB : AS := ([((2,13,0,0,0),0,0),((0,0,7,0,7),0,0),((0,0,1000,0,15),0,0),((0,0,200,0,15),0,0),((0,0,0,0,0),0,0),((0,0,200,0,15),0,0),((0,0,0,0,0),0,0),((2,44,0,0,0),0,0),((0,1,1,1,1),0,0)],[(0,0),(1,1),(2,3)],[1,0],[(0,0,2,4),(0,0,58,5),(0,0,3,6),(0,0,47,2),(0,0,4,7),(7,1,1,8)],0,0)
def gvN : ND := (20,([((2,13,0,0,0),0,0),((0,(-2147483648),2147483647,0,15),0,0),((0,0,1000,0,15),0,0),((0,0,200,0,15),0,0),((0,0,0,0,0),0,0),((0,0,200,0,15),0,0),((0,0,0,0,0),0,0)],[(0,0),(1,1),(2,3)],[],[(0,0,47,2),(0,0,3,4),(0,0,58,5),(0,0,2,6)],0,0),4)
theorem gv_n : arun [tC275] tC431 gvN [(67, gvB, 0)] [20, 67] 17 gvN.1 gvN.2.1 = true := by decide +kernel
theorem gv_a : arun [tC275] tC431 (0, aent tC431, 0) [gvN, (67, gvB, 0)] [20, 67] 17 0 (aent tC431) = true := by decide +kernel
theorem x_if0T {mi pc nx : Nat} {lv : LV} {r : List Value} {σ : ps} {P : Option Value → ps → Prop} {ts : List Nat} {c : Int} {u : Int32} {y : Nat} (hq : pins mi pc = some (16, nx, c, ((y : Nat) : Int), ts)) (h1 : icd c u 0 = true → wp mi y lv r σ P) (h2 : icd c u 0 = false → wp mi nx lv r σ P) : wp mi pc lv (.int u :: r) σ P := by
  cases hc : icd c u 0 with
  | true =>
    refine wp_step hq (fun e => absurd (show (16 : Nat) = 36 from e) (by decide)) (pret_none (fun e => absurd (show 37 ≤ (16 : Nat) ∧ (16 : Nat) ≤ 40 from e) (by decide))) ?_ (h1 hc)
    show f_if (16, nx, c, ((y : Nat) : Int), ts) lv (.int u :: r) σ = _
    unfold f_if
    simp only
    rw [hc]
    rfl
  | false =>
    refine wp_step hq (fun e => absurd (show (16 : Nat) = 36 from e) (by decide)) (pret_none (fun e => absurd (show 37 ≤ (16 : Nat) ∧ (16 : Nat) ≤ 40 from e) (by decide))) ?_ (h2 hc)
    show f_if (16, nx, c, ((y : Nat) : Int), ts) lv (.int u :: r) σ = _
    unfold f_if
    simp only
    rw [hc]
    rfl
theorem x_reti {mi pc nx : Nat} {lv : LV} {σ : ps} {P : Option Value → ps → Prop} {a b : Int} {ts : List Nat} {u : Int32} (hq : pins mi pc = some (38, nx, a, b, ts)) (hn : pnarO (rt mi) u = true) (h : P (some (.int u)) σ) : wp mi pc lv [.int u] σ P := by
  refine wp_ret hq (fun e => absurd (show (38 : Nat) = 36 from e) (by decide)) ?_ h
  show (if pnarO (rt mi) u then some (some (Value.int u)) else none) = _
  rw [hn]
  rfl
theorem gv_ok {Z : Nat → Prop} {σ : ps} {vs : List Value} (hT : Typed Z σ) (hL : ∀ a ∈ sL σ, a < σ.1) (hE : EntOK tC431 Z σ vs) (hU : JU σ) : wp 191 0 (lv_args 0 (vs.take 2)) [] σ (Post tC431 Z σ vs) := by
  have hlen : vs.length = (cEnv tC431).length := hE.1
  have KB : NOK tC431 Z σ vs (Post tC431 Z σ vs) (67, gvB, 0) := by
    intro Z1 ρ lv st σ1 I
    have U1 : JU σ1 := JU.of I.2.1 hU (by decide) (by decide)
    have T1 := I.1.2.2.2.2.2.1
    have L1 := I.1.2.2.2.2.2.2
    obtain ⟨v0, v1, v2, rfl⟩ := list3 (show vs.length = 3 from hlen)
    have r0 : ρ 0 = v0 := I.2.2.2.1 0 v0 rfl
    have r1 : ρ 1 = v1 := I.2.2.2.1 1 v1 rfl
    have r2 : ρ 2 = v2 := I.2.2.2.1 2 v2 rfl
    have o0 := (I.1.ok (i := 0) (by decide +kernel)).1
    have o1 := (I.1.ok (i := 1) (by decide +kernel)).1
    have o2 := (I.1.ok (i := 2) (by decide +kernel)).1
    rw [r0] at o0
    rw [r1] at o1
    rw [r2] at o2
    obtain ⟨t, et, zt, kt⟩ := o0.r (by decide +kernel)
    obtain ⟨hh, eh, _⟩ := o1.i (by decide +kernel)
    have kt : sK σ1 t = 13 := kt
    have hst : st = [v1, v0] := by
      rw [I.1.stk (l := [1, 0]) (by decide +kernel)]
      show [ρ 1, ρ 0] = _
      rw [r0, r1]
    have c47 : chOK (fun i => [v0, v1, v2].getD i .null) σ1 (0, 0, 47, 2) := by
      have := I.1.2.2.2.1 (0, 0, 47, 2) (by decide +kernel)
      rcases this with ⟨q, _⟩ | ⟨b, eb, q⟩
      · cases q
      · have eb : ρ 0 = .ref b := eb
        rw [r0] at eb
        rcases q with ⟨_, q⟩ | ⟨q, _⟩
        · have q : sV σ1 b 47 = ρ 2 := q
          exact Or.inr ⟨b, eb, Or.inl ⟨rfl, by rw [r2] at q; exact q⟩⟩
        · cases q
    have E1 : EntOK tC430 Z1 σ1 [v0, v1, v2] := by
      refine ⟨rfl, fun i t' v h1 h2 => ?_, fun c hc => ?_, fun i t' h1 h4 => ?_⟩
      · have hi : i < 3 := (List.getElem?_eq_some_iff.mp h2).1
        match i, hi, h1, h2 with
        | 0, _, h1, h2 => cases h1; cases h2; exact o0
        | 1, _, h1, h2 => cases h1; cases h2; exact o1
        | 2, _, h1, h2 => cases h1; cases h2; exact o2
      · have hc : c ∈ [(0, 0, 47, 2)] := hc
        rw [List.mem_singleton] at hc
        subst hc
        exact c47
      · have hi : i < 3 := (List.getElem?_eq_some_iff.mp h1).1
        match i, hi, h1 with
        | 0, _, h1 => cases h1; cases h4
        | 1, _, h1 => cases h1; cases h4
        | 2, _, h1 => cases h1; cases h4
    rw [hst]
    refine wp_call (q := (36, 70, 172, 0, [2])) (by decide +kernel) rfl ?_ (tk_ok T1 L1 E1 U1) ?_
    · rw [et, eh]
      have hp : pis σ1 t (ow 172) = true := by
        unfold pis
        rw [kt, decide_eq_true (T1 t zt).1]
        decide +kernel
      show (true && (true && (decide (2 ≤ mL 172) && pis σ1 t (ow 172)))) = true
      rw [hp]
      decide +kernel
    · intro r σ2 Q
      obtain ⟨Z2, b1, b2, b3, b4, alt, ha, b5⟩ := Q
      have ha : alt ∈ cAlt tC430 := ha
      have e1 : alt = ([(2,13,0,0,0),(0,0,7,0,7),(0,0,1000,0,15)],[(0,0,1,0,1)],[]) := by
        rw [show cAlt tC430 = [([(2,13,0,0,0),(0,0,7,0,7),(0,0,1000,0,15)],[(0,0,1,0,1)],[])] from rfl, List.mem_singleton] at ha
        exact ha
      subst e1
      obtain ⟨d1, d2, d3, _⟩ := b5
      rcases d3 with ⟨q, _⟩ | ⟨t2, v, q, er, ov⟩
      · cases q
      cases q
      obtain ⟨w, ew, _⟩ := ov.i rfl
      subst er ew
      have PF : ∀ z : Int32, Post tC431 Z σ [v0, v1, v2] (some (.int z)) σ2 := by
        intro z
        refine ⟨Z2, b1, b2, I.2.1.tr b3 (by decide +kernel) (by decide +kernel) (fun a _ h => ?_), ?_, ([(2,13,0,0,0),(0,(-2147483648),2147483647,0,15),(0,0,1000,0,15)],[(0,(-2147483648),2147483647,0,15)],[]), by decide +kernel, rfl, ?_, Or.inr ⟨_, _, rfl, rfl, okA.any z⟩, fun p hp => by cases hp⟩
        · obtain ⟨i, t', h1, h4, _⟩ := h
          have hi : i < 3 := (List.getElem?_eq_some_iff.mp h1).1
          match i, hi, h1 with
          | 0, _, h1 => cases h1; cases h4
          | 1, _, h1 => cases h1; cases h4
          | 2, _, h1 => cases h1; cases h4
        · obtain ⟨z1, z2⟩ := I.2.2.1.1 rfl
          obtain ⟨y1, y2⟩ := b4.1 rfl
          have z1 : σ1.1 ≤ σ.1 + 0 := z1
          have z2 : σ1.2.1 ≤ σ.2.1 + 0 := z2
          have y1 : σ2.1 ≤ σ1.1 + 0 := y1
          have y2 : σ2.2.1 ≤ σ1.2.1 + 0 := y2
          exact ⟨fun _ => ⟨by show σ2.1 ≤ σ.1 + 0; omega, by show σ2.2.1 ≤ σ.2.1 + 0; omega⟩, fun h => absurd rfl h, fun h => absurd rfl h⟩
        · intro i t' v' h1 h2
          have hi : i < 3 := (List.getElem?_eq_some_iff.mp h2).1
          match i, hi, h1, h2 with
          | 0, _, h1, h2 => cases h1; cases h2; exact d2 0 _ _ rfl rfl
          | 1, _, h1, h2 => cases h1; cases h2; rw [eh]; exact okA.any hh
          | 2, _, h1, h2 => cases h1; cases h2; exact d2 2 _ _ rfl rfl
      show wp 191 70 lv [.int w] σ2 _
      refine x_if0T (y := 77) (by decide +kernel : pins 191 70 = some (16, 73, 0, ((77 : Nat) : Int), [])) (fun _ => ?_) (fun _ => ?_)
      · refine x_ic (by decide +kernel : pins 191 77 = some (0, 78, 1, 0, [])) rfl ?_
        exact x_reti (u := Int32.ofInt 1) (by decide +kernel : pins 191 78 = some (38, 79, 0, 0, [])) (by decide +kernel) (PF _)
      · refine x_ic (by decide +kernel : pins 191 73 = some (0, 74, 0, 0, [])) rfl (x_go (y := 78) (by decide +kernel : pins 191 74 = some (20, 77, 0, ((78 : Nat) : Int), [])) ?_)
        exact x_reti (u := Int32.ofInt 0) (by decide +kernel : pins 191 78 = some (38, 79, 0, 0, [])) (by decide +kernel) (PF _)
  have KN : NOK tC431 Z σ vs (Post tC431 Z σ vs) gvN := node_ok (X := tC431) (VA_cons tV275 VA_nil) hlen (ret_ok hlen) (fun t ht => by
    rw [List.mem_singleton] at ht; subst ht; exact KB) gv_n
  have K0 : NOK tC431 Z σ vs (Post tC431 Z σ vs) (0, aent tC431, 0) := node_ok (X := tC431) (VA_cons tV275 VA_nil) hlen (ret_ok hlen) (fun t ht => by
    rcases List.mem_cons.mp ht with rfl | ht
    · exact KN
    · rw [List.mem_singleton] at ht; subst ht; exact KB) gv_a
  have w0 : wp tC431.1 0 (lv_args 0 (vs.take (np tC431.1))) [] σ (Post tC431 Z σ vs) := K0 Z _ _ _ σ (ent_ok (X := tC431) hT hL hE (fun h => absurd rfl h))
  have e : np tC431.1 = 2 := by decide +kernel
  rw [e] at w0
  exact w0
