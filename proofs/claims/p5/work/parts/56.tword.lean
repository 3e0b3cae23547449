def tC414 : CT := (168,[(2,13,0,0,0),(0,1,1,1,1),(0,0,200,0,15)],[(0,0,59,2)],[([(2,13,0,0,0),(0,1,1,1,1),(0,0,200,0,15)],[(0,0,0,0,0)],[]),([(2,13,0,0,0),(0,1,1,1,1),(0,0,199,0,15)],[(0,0,255,0,15)],[])],[(13,59),(13,60)],[],0,0,0,1)
def tN414 : List ND := [(24,([((2,13,0,0,0),0,0),((0,1,1,1,1),0,0),((0,0,199,0,15),0,0),((0,0,0,0,0),0,0),((0,0,0,0,0),0,0),((0,1,200,0,15),0,0)],[(0,0),(1,1),(2,3),(3,4)],[],[(0,0,59,2),(0,0,58,5)],0,0),0),(24,([((2,13,0,0,0),0,0),((0,1,1,1,1),0,0),((0,0,199,0,15),0,0),((0,0,255,0,15),0,0),((0,1,1,1,1),0,0),((0,1,200,0,15),0,0),((2,97,0,0,0),0,0)],[(0,0),(1,1),(2,3),(3,4)],[],[(0,0,58,5),(0,0,59,2),(0,0,57,6)],0,0),0)]
/-- take1, the place known -/
theorem tV414 : Valid tC414 := acheck_ok (ct := []) VA_nil (fuel := 18) (nds := tN414) (by decide +kernel)
theorem ch_ix {ρ : Nat → Value} {σ : ps} {a v i x : Nat} {w : Int32} (h : chOK ρ σ (i, 1, ((x : Nat) : Int), v)) (e1 : ρ i = .ref a) (e2 : ρ x = .int w) : sV σ a w.toNatClampNeg = ρ v := by
  rcases h with ⟨q, _⟩ | ⟨b, eb, h⟩
  · cases q
  · have eb : ρ i = .ref b := eb
    rw [e1] at eb
    cases eb
    rcases h with ⟨q, _⟩ | ⟨_, y, ey, h⟩
    · cases q
    · have ey : ρ x = .int y := ey
      rw [e2] at ey
      cases ey
      exact h
theorem ch_fl {ρ : Nat → Value} {σ : ps} {a v i : Nat} {j : Nat} (h : chOK ρ σ (i, 0, ((j : Nat) : Int), v)) (e1 : ρ i = .ref a) : sV σ a j = ρ v := by
  rcases h with ⟨q, _⟩ | ⟨b, eb, h⟩
  · cases q
  · have eb : ρ i = .ref b := eb
    rw [e1] at eb
    cases eb
    rcases h with ⟨_, h⟩ | ⟨q, _⟩
    · exact h
    · cases q
theorem list3 {vs : List Value} (h : vs.length = 3) : ∃ a b c, vs = [a, b, c] := by
  match vs, h with
  | [a, b, c], _ => exact ⟨a, b, c, rfl⟩
def tw62X : CT := (170,[(2,13,0,0,0),(2,102,0,0,0),(0,0,496,0,0)],[(0,0,62,1)],[([(2,13,0,0,0),(2,102,0,0,0),(0,0,496,0,0)],[],[])],[(13,59),(13,60),(102,0)],[],0,0,0,1)
def tw62O : CT := (170,[(2,13,0,0,0),(2,102,0,0,0),(0,0,496,0,0)],[(0,0,62,1)],[([(2,13,0,0,0),(2,102,0,0,0),(0,0,496,0,0)],[],[])],[(13,59),(13,60),(101,0),(102,0)],[],0,0,0,0)
def tC420 : CT := (170,[(2,13,0,0,0),(2,102,0,0,0),(0,0,496,0,0)],[(0,0,62,1)],[([(2,13,0,0,0),(2,102,0,0,0),(0,0,496,0,0)],[],[])],[(13,59),(13,60),(101,0),(102,0)],[],0,0,0,1)
def tw62B : AS := ([((2,13,0,0,0),0,0),((2,102,0,0,0),0,0),((0,0,496,0,0),0,0),((0,1,199,0,15),0,0),((0,128,255,0,15),0,0),((0,0,127,0,15),0,0),((0,0,0,0,0),0,0),((2,97,0,0,0),0,0),((0,0,496,0,0),3,0),((2,101,0,0,0),0,0),((0,0,0,0,0),0,0),((0,0,255,0,15),0,0),((0,1,1,1,1),0,0)],[(0,0),(1,1),(2,2),(3,3),(4,4),(5,5),(6,6)],[6,5,7,8,1],[(0,0,61,9),(1,1,2,10),(0,0,62,1),(0,0,57,7),(7,1,5,11),(9,1,5,12)],0,0)
def tw62C : AS := (tw62B.1, tw62B.2.1, [11, 8, 1], tw62B.2.2.2)
def tw62E : AS := ([((2,13,0,0,0),0,0),((2,102,0,0,0),0,0),((0,0,496,0,0),0,0),((0,0,199,0,15),0,0),((0,1,15,1,15),0,0),((0,2,16,0,15),0,0),((0,1,200,0,15),0,0)],[(0,0),(1,1),(2,2),(3,3),(4,4),(5,5)],[],[(0,0,58,6),(0,0,62,1)],0,0)
def tw62N : ND := (132,([((2,13,0,0,0),0,0),((2,102,0,0,0),0,0),((0,0,496,0,0),0,0),((0,0,199,0,15),0,0),((0,1,15,1,15),0,0),((0,1,16,0,15),0,0),((0,1,200,0,15),0,0)],[(0,0),(1,1),(2,2),(3,3),(4,4),(5,5)],[],[(0,0,62,1),(0,0,58,6)],0,0),6)
theorem tw62l1 : achk [tC414, tC410, tC201] tw62O [56] 80 [(83, (rst (rst tw62C 11 1 1) 5 0 (199 - 1)), 0), (56,([((2,13,0,0,0),0,0),((2,102,0,0,0),0,0),((0,0,496,0,0),0,0),((0,1,199,0,15),0,0),((0,128,255,0,15),0,0),((0,0,127,0,15),0,0),((0,1,2,1,2),0,0),((2,97,0,0,0),0,0),((2,101,0,0,0),0,0),((0,1,1,1,1),0,0),((0,1,1,1,1),0,0)],[(0,0),(1,1),(2,2),(3,3),(4,4),(5,5),(6,6)],[],[(0,0,57,7),(0,0,62,1),(0,0,61,8),(8,1,5,9),(7,1,5,10)],0,0),7)] = true := by decide +kernel
theorem tw62l2 : achk [tC414, tC410, tC201] tw62O [56] 80 [(83, (rst (rst tw62C 11 2 2) 5 0 (199 - 2)), 0), (56,([((2,13,0,0,0),0,0),((2,102,0,0,0),0,0),((0,0,496,0,0),0,0),((0,1,199,0,15),0,0),((0,128,255,0,15),0,0),((0,0,127,0,15),0,0),((0,1,3,1,3),0,0),((2,97,0,0,0),0,0),((2,101,0,0,0),0,0),((0,1,1,1,1),0,0),((0,2,2,2,2),0,0)],[(0,0),(1,1),(2,2),(3,3),(4,4),(5,5),(6,6)],[],[(0,0,57,7),(0,0,62,1),(0,0,61,8),(8,1,5,9),(7,1,5,10)],0,0),7)] = true := by decide +kernel
theorem tw62l3 : achk [tC414, tC410, tC201] tw62O [56] 80 [(83, (rst (rst tw62C 11 3 3) 5 0 (199 - 3)), 0), (56,([((2,13,0,0,0),0,0),((2,102,0,0,0),0,0),((0,0,496,0,0),0,0),((0,1,199,0,15),0,0),((0,128,255,0,15),0,0),((0,0,127,0,15),0,0),((0,1,4,1,4),0,0),((2,97,0,0,0),0,0),((2,101,0,0,0),0,0),((0,1,1,1,1),0,0),((0,3,3,3,3),0,0)],[(0,0),(1,1),(2,2),(3,3),(4,4),(5,5),(6,6)],[],[(0,0,57,7),(0,0,62,1),(0,0,61,8),(8,1,5,9),(7,1,5,10)],0,0),7)] = true := by decide +kernel
theorem tw62l4 : achk [tC414, tC410, tC201] tw62O [56] 80 [(83, (rst (rst tw62C 11 4 4) 5 0 (199 - 4)), 0), (56,([((2,13,0,0,0),0,0),((2,102,0,0,0),0,0),((0,0,496,0,0),0,0),((0,1,199,0,15),0,0),((0,128,255,0,15),0,0),((0,0,127,0,15),0,0),((0,1,5,1,5),0,0),((2,97,0,0,0),0,0),((2,101,0,0,0),0,0),((0,1,1,1,1),0,0),((0,4,4,4,4),0,0)],[(0,0),(1,1),(2,2),(3,3),(4,4),(5,5),(6,6)],[],[(0,0,57,7),(0,0,62,1),(0,0,61,8),(8,1,5,9),(7,1,5,10)],0,0),7)] = true := by decide +kernel
theorem tw62l5 : achk [tC414, tC410, tC201] tw62O [56] 80 [(83, (rst (rst tw62C 11 5 5) 5 0 (199 - 5)), 0), (56,([((2,13,0,0,0),0,0),((2,102,0,0,0),0,0),((0,0,496,0,0),0,0),((0,1,199,0,15),0,0),((0,128,255,0,15),0,0),((0,0,127,0,15),0,0),((0,1,6,1,6),0,0),((2,97,0,0,0),0,0),((2,101,0,0,0),0,0),((0,1,1,1,1),0,0),((0,5,5,5,5),0,0)],[(0,0),(1,1),(2,2),(3,3),(4,4),(5,5),(6,6)],[],[(0,0,57,7),(0,0,62,1),(0,0,61,8),(8,1,5,9),(7,1,5,10)],0,0),7)] = true := by decide +kernel
theorem tw62l6 : achk [tC414, tC410, tC201] tw62O [56] 80 [(83, (rst (rst tw62C 11 6 6) 5 0 (199 - 6)), 0), (56,([((2,13,0,0,0),0,0),((2,102,0,0,0),0,0),((0,0,496,0,0),0,0),((0,1,199,0,15),0,0),((0,128,255,0,15),0,0),((0,0,127,0,15),0,0),((0,1,7,1,7),0,0),((2,97,0,0,0),0,0),((2,101,0,0,0),0,0),((0,1,1,1,1),0,0),((0,6,6,6,6),0,0)],[(0,0),(1,1),(2,2),(3,3),(4,4),(5,5),(6,6)],[],[(0,0,57,7),(0,0,62,1),(0,0,61,8),(8,1,5,9),(7,1,5,10)],0,0),7)] = true := by decide +kernel
theorem tw62l7 : achk [tC414, tC410, tC201] tw62O [56] 80 [(83, (rst (rst tw62C 11 7 7) 5 0 (199 - 7)), 0), (56,([((2,13,0,0,0),0,0),((2,102,0,0,0),0,0),((0,0,496,0,0),0,0),((0,1,199,0,15),0,0),((0,128,255,0,15),0,0),((0,0,127,0,15),0,0),((0,1,8,1,8),0,0),((2,97,0,0,0),0,0),((2,101,0,0,0),0,0),((0,1,1,1,1),0,0),((0,7,7,7,7),0,0)],[(0,0),(1,1),(2,2),(3,3),(4,4),(5,5),(6,6)],[],[(0,0,57,7),(0,0,62,1),(0,0,61,8),(8,1,5,9),(7,1,5,10)],0,0),7)] = true := by decide +kernel
theorem tw62l8 : achk [tC414, tC410, tC201] tw62O [56] 80 [(83, (rst (rst tw62C 11 8 8) 5 0 (199 - 8)), 0), (56,([((2,13,0,0,0),0,0),((2,102,0,0,0),0,0),((0,0,496,0,0),0,0),((0,1,199,0,15),0,0),((0,128,255,0,15),0,0),((0,0,127,0,15),0,0),((0,1,9,1,9),0,0),((2,97,0,0,0),0,0),((2,101,0,0,0),0,0),((0,1,1,1,1),0,0),((0,8,8,8,8),0,0)],[(0,0),(1,1),(2,2),(3,3),(4,4),(5,5),(6,6)],[],[(0,0,57,7),(0,0,62,1),(0,0,61,8),(8,1,5,9),(7,1,5,10)],0,0),7)] = true := by decide +kernel
theorem tw62l9 : achk [tC414, tC410, tC201] tw62O [56] 80 [(83, (rst (rst tw62C 11 9 9) 5 0 (199 - 9)), 0), (56,([((2,13,0,0,0),0,0),((2,102,0,0,0),0,0),((0,0,496,0,0),0,0),((0,1,199,0,15),0,0),((0,128,255,0,15),0,0),((0,0,127,0,15),0,0),((0,1,10,1,10),0,0),((2,97,0,0,0),0,0),((2,101,0,0,0),0,0),((0,1,1,1,1),0,0),((0,9,9,9,9),0,0)],[(0,0),(1,1),(2,2),(3,3),(4,4),(5,5),(6,6)],[],[(0,0,57,7),(0,0,62,1),(0,0,61,8),(8,1,5,9),(7,1,5,10)],0,0),7)] = true := by decide +kernel
theorem tw62l10 : achk [tC414, tC410, tC201] tw62O [56] 80 [(83, (rst (rst tw62C 11 10 10) 5 0 (199 - 10)), 0), (56,([((2,13,0,0,0),0,0),((2,102,0,0,0),0,0),((0,0,496,0,0),0,0),((0,1,199,0,15),0,0),((0,128,255,0,15),0,0),((0,0,127,0,15),0,0),((0,1,11,1,11),0,0),((2,97,0,0,0),0,0),((2,101,0,0,0),0,0),((0,1,1,1,1),0,0),((0,10,10,10,10),0,0)],[(0,0),(1,1),(2,2),(3,3),(4,4),(5,5),(6,6)],[],[(0,0,57,7),(0,0,62,1),(0,0,61,8),(8,1,5,9),(7,1,5,10)],0,0),7)] = true := by decide +kernel
theorem tw62l11 : achk [tC414, tC410, tC201] tw62O [56] 80 [(83, (rst (rst tw62C 11 11 11) 5 0 (199 - 11)), 0), (56,([((2,13,0,0,0),0,0),((2,102,0,0,0),0,0),((0,0,496,0,0),0,0),((0,1,199,0,15),0,0),((0,128,255,0,15),0,0),((0,0,127,0,15),0,0),((0,1,12,1,12),0,0),((2,97,0,0,0),0,0),((2,101,0,0,0),0,0),((0,1,1,1,1),0,0),((0,11,11,11,11),0,0)],[(0,0),(1,1),(2,2),(3,3),(4,4),(5,5),(6,6)],[],[(0,0,57,7),(0,0,62,1),(0,0,61,8),(8,1,5,9),(7,1,5,10)],0,0),7)] = true := by decide +kernel
theorem tw62l12 : achk [tC414, tC410, tC201] tw62O [56] 80 [(83, (rst (rst tw62C 11 12 12) 5 0 (199 - 12)), 0), (56,([((2,13,0,0,0),0,0),((2,102,0,0,0),0,0),((0,0,496,0,0),0,0),((0,1,199,0,15),0,0),((0,128,255,0,15),0,0),((0,0,127,0,15),0,0),((0,1,13,1,13),0,0),((2,97,0,0,0),0,0),((2,101,0,0,0),0,0),((0,1,1,1,1),0,0),((0,12,12,12,12),0,0)],[(0,0),(1,1),(2,2),(3,3),(4,4),(5,5),(6,6)],[],[(0,0,57,7),(0,0,62,1),(0,0,61,8),(8,1,5,9),(7,1,5,10)],0,0),7)] = true := by decide +kernel
theorem tw62l13 : achk [tC414, tC410, tC201] tw62O [56] 80 [(83, (rst (rst tw62C 11 13 13) 5 0 (199 - 13)), 0), (56,([((2,13,0,0,0),0,0),((2,102,0,0,0),0,0),((0,0,496,0,0),0,0),((0,1,199,0,15),0,0),((0,128,255,0,15),0,0),((0,0,127,0,15),0,0),((0,1,14,1,14),0,0),((2,97,0,0,0),0,0),((2,101,0,0,0),0,0),((0,1,1,1,1),0,0),((0,13,13,13,13),0,0)],[(0,0),(1,1),(2,2),(3,3),(4,4),(5,5),(6,6)],[],[(0,0,57,7),(0,0,62,1),(0,0,61,8),(8,1,5,9),(7,1,5,10)],0,0),7)] = true := by decide +kernel
theorem tw62l14 : achk [tC414, tC410, tC201] tw62O [56] 80 [(83, (rst (rst tw62C 11 14 14) 5 0 (199 - 14)), 0), (56,([((2,13,0,0,0),0,0),((2,102,0,0,0),0,0),((0,0,496,0,0),0,0),((0,1,199,0,15),0,0),((0,128,255,0,15),0,0),((0,0,127,0,15),0,0),((0,1,15,1,15),0,0),((2,97,0,0,0),0,0),((2,101,0,0,0),0,0),((0,1,1,1,1),0,0),((0,14,14,14,14),0,0)],[(0,0),(1,1),(2,2),(3,3),(4,4),(5,5),(6,6)],[],[(0,0,57,7),(0,0,62,1),(0,0,61,8),(8,1,5,9),(7,1,5,10)],0,0),7)] = true := by decide +kernel
theorem tw62l15 : achk [tC414, tC410, tC201] tw62O [56] 80 [(83, (rst (rst tw62C 11 15 15) 5 0 (199 - 15)), 0), (56,([((2,13,0,0,0),0,0),((2,102,0,0,0),0,0),((0,0,496,0,0),0,0),((0,1,199,0,15),0,0),((0,128,255,0,15),0,0),((0,0,127,0,15),0,0),((0,1,16,0,15),0,0),((2,97,0,0,0),0,0),((2,101,0,0,0),0,0),((0,1,1,1,1),0,0),((0,15,15,15,15),0,0)],[(0,0),(1,1),(2,2),(3,3),(4,4),(5,5),(6,6)],[],[(0,0,57,7),(0,0,62,1),(0,0,61,8),(8,1,5,9),(7,1,5,10)],0,0),7)] = true := by decide +kernel
theorem tw62e : achk [tC414, tC410, tC201] tw62O [] 40 [(173, tw62E, 0)] = true := by decide +kernel
theorem tw62n : arun [tC414, tC410, tC201] tw62X tw62N [(81, tw62B, 0), (173, tw62E, 0)] [81, 132, 173] 80 tw62N.1 tw62N.2.1 = true := by decide +kernel
theorem tw62a : arun [tC414, tC410, tC201] tw62X (0, aent tw62X, 0) [tw62N, (81, tw62B, 0), (173, tw62E, 0)] [81, 132, 173] 80 0 (aent tw62X) = true := by decide +kernel
set_option maxHeartbeats 1000000 in
theorem tV420 : Valid tC420 := by
  intro Z0 σ0 vs hT hL hE hJ
  have hJ0 : JJ σ0 := hJ (by decide)
  have hlen : vs.length = (cEnv tC420).length := hE.1
  have KL : ∀ v : Int, 1 ≤ v → v ≤ 15 → NOK tw62O Z0 σ0 vs (Post tw62O Z0 σ0 vs) (83, (rst (rst tw62C 11 v v) 5 0 (199 - v)), 0) := by
    intro v h1 h2
    have hv : v = 1 ∨ v = 2 ∨ v = 3 ∨ v = 4 ∨ v = 5 ∨ v = 6 ∨ v = 7 ∨ v = 8 ∨ v = 9 ∨ v = 10 ∨ v = 11 ∨ v = 12 ∨ v = 13 ∨ v = 14 ∨ v = 15 := by omega
    rcases hv with rfl | rfl | rfl | rfl | rfl | rfl | rfl | rfl | rfl | rfl | rfl | rfl | rfl | rfl | rfl
    · exact achk_ok (X := tw62O) (VA_cons tV414 (VA_cons tV410 (VA_cons tV201 VA_nil))) hlen (ret_ok hlen) _ tw62l1 _ List.mem_cons_self
    · exact achk_ok (X := tw62O) (VA_cons tV414 (VA_cons tV410 (VA_cons tV201 VA_nil))) hlen (ret_ok hlen) _ tw62l2 _ List.mem_cons_self
    · exact achk_ok (X := tw62O) (VA_cons tV414 (VA_cons tV410 (VA_cons tV201 VA_nil))) hlen (ret_ok hlen) _ tw62l3 _ List.mem_cons_self
    · exact achk_ok (X := tw62O) (VA_cons tV414 (VA_cons tV410 (VA_cons tV201 VA_nil))) hlen (ret_ok hlen) _ tw62l4 _ List.mem_cons_self
    · exact achk_ok (X := tw62O) (VA_cons tV414 (VA_cons tV410 (VA_cons tV201 VA_nil))) hlen (ret_ok hlen) _ tw62l5 _ List.mem_cons_self
    · exact achk_ok (X := tw62O) (VA_cons tV414 (VA_cons tV410 (VA_cons tV201 VA_nil))) hlen (ret_ok hlen) _ tw62l6 _ List.mem_cons_self
    · exact achk_ok (X := tw62O) (VA_cons tV414 (VA_cons tV410 (VA_cons tV201 VA_nil))) hlen (ret_ok hlen) _ tw62l7 _ List.mem_cons_self
    · exact achk_ok (X := tw62O) (VA_cons tV414 (VA_cons tV410 (VA_cons tV201 VA_nil))) hlen (ret_ok hlen) _ tw62l8 _ List.mem_cons_self
    · exact achk_ok (X := tw62O) (VA_cons tV414 (VA_cons tV410 (VA_cons tV201 VA_nil))) hlen (ret_ok hlen) _ tw62l9 _ List.mem_cons_self
    · exact achk_ok (X := tw62O) (VA_cons tV414 (VA_cons tV410 (VA_cons tV201 VA_nil))) hlen (ret_ok hlen) _ tw62l10 _ List.mem_cons_self
    · exact achk_ok (X := tw62O) (VA_cons tV414 (VA_cons tV410 (VA_cons tV201 VA_nil))) hlen (ret_ok hlen) _ tw62l11 _ List.mem_cons_self
    · exact achk_ok (X := tw62O) (VA_cons tV414 (VA_cons tV410 (VA_cons tV201 VA_nil))) hlen (ret_ok hlen) _ tw62l12 _ List.mem_cons_self
    · exact achk_ok (X := tw62O) (VA_cons tV414 (VA_cons tV410 (VA_cons tV201 VA_nil))) hlen (ret_ok hlen) _ tw62l13 _ List.mem_cons_self
    · exact achk_ok (X := tw62O) (VA_cons tV414 (VA_cons tV410 (VA_cons tV201 VA_nil))) hlen (ret_ok hlen) _ tw62l14 _ List.mem_cons_self
    · exact achk_ok (X := tw62O) (VA_cons tV414 (VA_cons tV410 (VA_cons tV201 VA_nil))) hlen (ret_ok hlen) _ tw62l15 _ List.mem_cons_self
  have KE : NOK tw62O Z0 σ0 vs (Post tw62O Z0 σ0 vs) (173, tw62E, 0) := achk_ok (X := tw62O) (VA_cons tV414 (VA_cons tV410 (VA_cons tV201 VA_nil))) hlen (ret_ok hlen) _ tw62e _ List.mem_cons_self
  have m1 : (cMod tw62X).all (fun q => inM (cMod tw62O) q.1 q.2) = true := by decide +kernel
  have m2 : (cNk tw62X).all (fun m => (cNk tw62O).contains m) = true := by decide +kernel
  have RP : RetP tw62X Z0 σ0 vs (Post tw62O Z0 σ0 vs) := by
    intro Z ρ α lv st σ q hw I h
    obtain ⟨r, hr, Z', a1, a2, a3, a4, a5⟩ := ret_ok (X := tw62X) hlen Z ρ α lv st σ q hw I h
    exact ⟨r, hr, Z', a1, a2, a3.mods m1 m2, ⟨fun _ => a4.1 rfl, fun h => absurd rfl h, fun h => absurd rfl h⟩, a5⟩
  have IO : ∀ {Z : Nat → Prop} {ρ : Nat → Value} {α : AS} {lv : LV} {st : List Value} {σ : ps}, Inv tw62X (rwOf tw62X vs) Z0 σ0 vs Z ρ α lv st σ → Inv tw62O (rwOf tw62O vs) Z0 σ0 vs Z ρ α lv st σ := fun I => ⟨I.1, I.2.1.mods m1 m2, ⟨fun _ => I.2.2.1.1 rfl, fun h => absurd rfl h, fun h => absurd rfl h⟩, I.2.2.2⟩
  have KE' : NOK tw62X Z0 σ0 vs (Post tw62O Z0 σ0 vs) (173, tw62E, 0) := fun Z ρ lv st σ I => KE Z ρ lv st σ (IO I)
  have KB : NOK tw62X Z0 σ0 vs (Post tw62O Z0 σ0 vs) (81, tw62B, 0) := by
    intro Z ρ lv st σ I
    have J := (I.2.2.1.2.2 (by decide)).2
    obtain ⟨pa, epa, hpa, kpa, _, _⟩ := I.1.obj (i := 7) (by decide +kernel)
    obtain ⟨wa, ewa, hwa, kwa, _, _⟩ := I.1.obj (i := 9) (by decide +kernel)
    obtain ⟨p, ep, p1, p2, _⟩ := I.1.int (i := 5) (by decide +kernel)
    obtain ⟨y1, ey1, _, _, _⟩ := I.1.int (i := 11) (by decide +kernel)
    obtain ⟨c, ec, c1, c2, _⟩ := I.1.int (i := 6) (by decide +kernel)
    obtain ⟨on, eon, o1, o2, _⟩ := I.1.int (i := 12) (by decide +kernel)
    have p1 : (0 : Int) ≤ p.toInt := p1
    have p2 : p.toInt ≤ 127 := p2
    have o1 : (1 : Int) ≤ on.toInt := o1
    have kpa : sK σ pa = 97 := kpa
    have kwa : sK σ wa = 101 := kwa
    have q1 := ch_ix (x := 5) (I.1.2.2.2.1 (7, 1, 5, 11) (by decide +kernel)) epa ep
    have q3 := ch_ix (x := 5) (I.1.2.2.2.1 (9, 1, 5, 12) (by decide +kernel)) ewa ep
    have hp : p.toNatClampNeg < 200 := by show p.toInt.toNat < 200; omega
    obtain ⟨a1, a2, a3, a4⟩ := J pa wa hpa hwa kpa kwa p.toNatClampNeg hp (by
      rw [q3, eon]
      intro q
      have q : on = 0 := q
      rw [q] at o1
      exact absurd o1 (by decide))
    rw [q1, ey1] at a1 a2 a3
    have a1 : 1 ≤ y1.toInt := a1
    have a2 : y1.toInt ≤ 15 := a2
    have hpc : (p.toNatClampNeg : Int) = p.toInt := n_clamp p1
    have a3 : (p.toNatClampNeg : Int) + y1.toInt < 200 := a3
    have c1 : (0 : Int) ≤ c.toInt := c1
    have c2 : c.toInt ≤ 0 := c2
    have ec0 : c = 0 := Int32.toInt_inj.mp (by show c.toInt = 0; omega)
    have hst : st = .int c :: .int p :: .ref pa :: [8, 1].map ρ := by
      rw [I.1.stk (l := [6, 5, 7, 8, 1]) (by decide +kernel)]
      show [ρ 6, ρ 5, ρ 7, ρ 8, ρ 1] = _
      rw [ec, ep, epa]
      rfl
    have IC : Inv tw62O (rwOf tw62O vs) Z0 σ0 vs Z ρ tw62C lv (ρ 11 :: [8, 1].map ρ) σ := ⟨⟨(IO I).1.1, (IO I).1.2.1, rfl, (IO I).1.2.2.2⟩, (IO I).2⟩
    have I1 := IC.rsts (i := 11) (lo := y1.toInt) (hi := y1.toInt) (by decide +kernel) ey1 (Int.le_refl _) (Int.le_refl _)
    have I3 := I1.rsts (i := 5) (lo := 0) (hi := 199 - y1.toInt) (rst_tag (by decide +kernel)) ep p1 (by omega)
    have K := KL y1.toInt a1 a2 Z ρ lv _ σ I3
    rw [hst]
    refine wp_step (q := (10, 82, 0, 0, [])) (pc' := 82) (lv' := lv) (st' := .int p :: .ref pa :: [8, 1].map ρ) (σ' := σ) (by decide +kernel) (by decide) (pret_none (by decide)) ?_ ?_
    · show f_iop (10, 82, 0, 0, []) lv (.int c :: .int p :: .ref pa :: [8, 1].map ρ) σ = _
      rw [ec0]
      show some (82, lv, .int (p + 0) :: .ref pa :: [8, 1].map ρ, σ) = _
      rw [Int32.add_zero]
    · refine wp_step (q := (24, 83, 0, 0, [])) (pc' := 83) (lv' := lv) (st' := ρ 11 :: [8, 1].map ρ) (σ' := σ) (by decide +kernel) (by decide) (pret_none (by decide)) ?_ K
      show f_iald (24, 83, 0, 0, []) lv (.int p :: .ref pa :: [8, 1].map ρ) σ = _
      unfold f_iald
      simp only
      have hr : isRow σ pa 1 = true := by
        unfold isRow
        rw [kpa]
        simp only [hpa, decide_true, Bool.true_and]
        decide +kernel
      rw [hr, kpa, n_pin p1 (by show p.toInt < ((rk 97).2 : Int); have : ((rk 97).2 : Int) = 200 := (by decide +kernel); omega)]
      simp only [Bool.and_self, if_true]
      rw [q1, ey1]
  have KN : NOK tw62X Z0 σ0 vs (Post tw62O Z0 σ0 vs) tw62N := node_ok (X := tw62X) (VA_cons tV414 (VA_cons tV410 (VA_cons tV201 VA_nil))) hlen RP (fun t ht => by
    rcases List.mem_cons.mp ht with rfl | ht
    · exact KB
    · rw [List.mem_singleton] at ht; subst ht; exact KE') tw62n
  have K0 : NOK tw62X Z0 σ0 vs (Post tw62O Z0 σ0 vs) (0, aent tw62X, 0) := node_ok (X := tw62X) (VA_cons tV414 (VA_cons tV410 (VA_cons tV201 VA_nil))) hlen RP (fun t ht => by
    rcases List.mem_cons.mp ht with rfl | ht
    · exact KN
    · rcases List.mem_cons.mp ht with rfl | ht
      · exact KB
      · rw [List.mem_singleton] at ht; subst ht; exact KE') tw62a
  have w0 : wp tC420.1 0 (lv_args 0 (vs.take (np tC420.1))) [] σ0 (Post tw62O Z0 σ0 vs) := K0 Z0 _ _ _ σ0 (ent_ok (X := tw62X) hT hL hE (fun _ => hJ0))
  refine wp_mono (wp_self w0) ?_
  intro r σ' hr
  obtain ⟨⟨Z', b1, b2, b3, b4, b5⟩, N, hN⟩ := hr
  refine ⟨Z', b1, b2, b3, ⟨b4.1, b4.2.1, fun _ => ?_⟩, b5⟩
  obtain ⟨v0, v1, v2, rfl⟩ := list3 (show vs.length = 3 from hlen)
  obtain ⟨t, et, zt, kt⟩ := (hE.2.1 0 _ _ rfl rfl).r rfl
  obtain ⟨b, eb, zb, kb⟩ := (hE.2.1 1 _ _ rfl rfl).r rfl
  obtain ⟨i, ei, i1, i2, _⟩ := (hE.2.1 2 _ _ rfl rfl).i rfl
  have i1 : (0 : Int) ≤ i.toInt := i1
  have i2 : i.toInt ≤ 496 := i2
  subst et eb ei
  have hf : sV σ0 t 62 = .ref b := ch_fl (i := 0) (j := 62) (v := 1) (hE.2.2.1 (0, 0, 62, 1) List.mem_cons_self) rfl
  have W := wd_of hT hL zt kt
  have R := fun j (hj : isRw j = true) => rowsA_ok hT zt kt hj
  have eb : b = rowsA σ0 t 62 := by
    have := (R 62 (by decide)).1
    rw [hf] at this
    cases this
    rfl
  subst eb
  have hps : (gI (vw t (rowsA σ0 t) σ0) 58 0).toInt ≤ 200 := by
    obtain ⟨z, ez, z1, z2, _⟩ := (vw_tyf (A := rowsA σ0 t) hT zt kt (j := 58) (by decide) (by decide) (i := 0)).i (by decide +kernel)
    unfold gI
    rw [ez]
    exact z2
  obtain ⟨_, S, _, _, _, J⟩ := takeWord_ (x := (r, σ')) W hN (Or.inl rfl) ⟨i1, by omega⟩ hps (jv_of W (R 57 (by decide)).2.2.1 (R 61 (by decide)).2.2.1 hJ0.2)
  have U := JU.st S hJ0.1
  exact ⟨U, jm_of S.1 (by rw [S.2.1]; exact (R 57 (by decide)).2.2.1) (by rw [S.2.1]; exact (R 61 (by decide)).2.2.1) U J⟩
def tw63X : CT := (170,[(2,13,0,0,0),(2,103,0,0,0),(0,0,496,0,0)],[(0,0,63,1)],[([(2,13,0,0,0),(2,103,0,0,0),(0,0,496,0,0)],[],[])],[(13,59),(13,60),(103,0)],[],0,0,0,1)
def tw63O : CT := (170,[(2,13,0,0,0),(2,103,0,0,0),(0,0,496,0,0)],[(0,0,63,1)],[([(2,13,0,0,0),(2,103,0,0,0),(0,0,496,0,0)],[],[])],[(13,59),(13,60),(101,0),(103,0)],[],0,0,0,0)
def tC421 : CT := (170,[(2,13,0,0,0),(2,103,0,0,0),(0,0,496,0,0)],[(0,0,63,1)],[([(2,13,0,0,0),(2,103,0,0,0),(0,0,496,0,0)],[],[])],[(13,59),(13,60),(101,0),(103,0)],[],0,0,0,1)
def tw63B : AS := ([((2,13,0,0,0),0,0),((2,103,0,0,0),0,0),((0,0,496,0,0),0,0),((0,1,199,0,15),0,0),((0,128,255,0,15),0,0),((0,0,127,0,15),0,0),((0,0,0,0,0),0,0),((2,97,0,0,0),0,0),((0,0,496,0,0),3,0),((2,101,0,0,0),0,0),((0,0,0,0,0),0,0),((0,0,255,0,15),0,0),((0,1,1,1,1),0,0)],[(0,0),(1,1),(2,2),(3,3),(4,4),(5,5),(6,6)],[6,5,7,8,1],[(0,0,61,9),(1,1,2,10),(0,0,63,1),(0,0,57,7),(7,1,5,11),(9,1,5,12)],0,0)
def tw63C : AS := (tw63B.1, tw63B.2.1, [11, 8, 1], tw63B.2.2.2)
def tw63E : AS := ([((2,13,0,0,0),0,0),((2,103,0,0,0),0,0),((0,0,496,0,0),0,0),((0,0,199,0,15),0,0),((0,1,15,1,15),0,0),((0,2,16,0,15),0,0),((0,1,200,0,15),0,0)],[(0,0),(1,1),(2,2),(3,3),(4,4),(5,5)],[],[(0,0,58,6),(0,0,63,1)],0,0)
def tw63N : ND := (132,([((2,13,0,0,0),0,0),((2,103,0,0,0),0,0),((0,0,496,0,0),0,0),((0,0,199,0,15),0,0),((0,1,15,1,15),0,0),((0,1,16,0,15),0,0),((0,1,200,0,15),0,0)],[(0,0),(1,1),(2,2),(3,3),(4,4),(5,5)],[],[(0,0,63,1),(0,0,58,6)],0,0),6)
theorem tw63l1 : achk [tC414, tC410, tC201] tw63O [56] 80 [(83, (rst (rst tw63C 11 1 1) 5 0 (199 - 1)), 0), (56,([((2,13,0,0,0),0,0),((2,103,0,0,0),0,0),((0,0,496,0,0),0,0),((0,1,199,0,15),0,0),((0,128,255,0,15),0,0),((0,0,127,0,15),0,0),((0,1,2,1,2),0,0),((2,97,0,0,0),0,0),((2,101,0,0,0),0,0),((0,1,1,1,1),0,0),((0,1,1,1,1),0,0)],[(0,0),(1,1),(2,2),(3,3),(4,4),(5,5),(6,6)],[],[(0,0,57,7),(0,0,63,1),(0,0,61,8),(8,1,5,9),(7,1,5,10)],0,0),7)] = true := by decide +kernel
theorem tw63l2 : achk [tC414, tC410, tC201] tw63O [56] 80 [(83, (rst (rst tw63C 11 2 2) 5 0 (199 - 2)), 0), (56,([((2,13,0,0,0),0,0),((2,103,0,0,0),0,0),((0,0,496,0,0),0,0),((0,1,199,0,15),0,0),((0,128,255,0,15),0,0),((0,0,127,0,15),0,0),((0,1,3,1,3),0,0),((2,97,0,0,0),0,0),((2,101,0,0,0),0,0),((0,1,1,1,1),0,0),((0,2,2,2,2),0,0)],[(0,0),(1,1),(2,2),(3,3),(4,4),(5,5),(6,6)],[],[(0,0,57,7),(0,0,63,1),(0,0,61,8),(8,1,5,9),(7,1,5,10)],0,0),7)] = true := by decide +kernel
theorem tw63l3 : achk [tC414, tC410, tC201] tw63O [56] 80 [(83, (rst (rst tw63C 11 3 3) 5 0 (199 - 3)), 0), (56,([((2,13,0,0,0),0,0),((2,103,0,0,0),0,0),((0,0,496,0,0),0,0),((0,1,199,0,15),0,0),((0,128,255,0,15),0,0),((0,0,127,0,15),0,0),((0,1,4,1,4),0,0),((2,97,0,0,0),0,0),((2,101,0,0,0),0,0),((0,1,1,1,1),0,0),((0,3,3,3,3),0,0)],[(0,0),(1,1),(2,2),(3,3),(4,4),(5,5),(6,6)],[],[(0,0,57,7),(0,0,63,1),(0,0,61,8),(8,1,5,9),(7,1,5,10)],0,0),7)] = true := by decide +kernel
theorem tw63l4 : achk [tC414, tC410, tC201] tw63O [56] 80 [(83, (rst (rst tw63C 11 4 4) 5 0 (199 - 4)), 0), (56,([((2,13,0,0,0),0,0),((2,103,0,0,0),0,0),((0,0,496,0,0),0,0),((0,1,199,0,15),0,0),((0,128,255,0,15),0,0),((0,0,127,0,15),0,0),((0,1,5,1,5),0,0),((2,97,0,0,0),0,0),((2,101,0,0,0),0,0),((0,1,1,1,1),0,0),((0,4,4,4,4),0,0)],[(0,0),(1,1),(2,2),(3,3),(4,4),(5,5),(6,6)],[],[(0,0,57,7),(0,0,63,1),(0,0,61,8),(8,1,5,9),(7,1,5,10)],0,0),7)] = true := by decide +kernel
theorem tw63l5 : achk [tC414, tC410, tC201] tw63O [56] 80 [(83, (rst (rst tw63C 11 5 5) 5 0 (199 - 5)), 0), (56,([((2,13,0,0,0),0,0),((2,103,0,0,0),0,0),((0,0,496,0,0),0,0),((0,1,199,0,15),0,0),((0,128,255,0,15),0,0),((0,0,127,0,15),0,0),((0,1,6,1,6),0,0),((2,97,0,0,0),0,0),((2,101,0,0,0),0,0),((0,1,1,1,1),0,0),((0,5,5,5,5),0,0)],[(0,0),(1,1),(2,2),(3,3),(4,4),(5,5),(6,6)],[],[(0,0,57,7),(0,0,63,1),(0,0,61,8),(8,1,5,9),(7,1,5,10)],0,0),7)] = true := by decide +kernel
theorem tw63l6 : achk [tC414, tC410, tC201] tw63O [56] 80 [(83, (rst (rst tw63C 11 6 6) 5 0 (199 - 6)), 0), (56,([((2,13,0,0,0),0,0),((2,103,0,0,0),0,0),((0,0,496,0,0),0,0),((0,1,199,0,15),0,0),((0,128,255,0,15),0,0),((0,0,127,0,15),0,0),((0,1,7,1,7),0,0),((2,97,0,0,0),0,0),((2,101,0,0,0),0,0),((0,1,1,1,1),0,0),((0,6,6,6,6),0,0)],[(0,0),(1,1),(2,2),(3,3),(4,4),(5,5),(6,6)],[],[(0,0,57,7),(0,0,63,1),(0,0,61,8),(8,1,5,9),(7,1,5,10)],0,0),7)] = true := by decide +kernel
theorem tw63l7 : achk [tC414, tC410, tC201] tw63O [56] 80 [(83, (rst (rst tw63C 11 7 7) 5 0 (199 - 7)), 0), (56,([((2,13,0,0,0),0,0),((2,103,0,0,0),0,0),((0,0,496,0,0),0,0),((0,1,199,0,15),0,0),((0,128,255,0,15),0,0),((0,0,127,0,15),0,0),((0,1,8,1,8),0,0),((2,97,0,0,0),0,0),((2,101,0,0,0),0,0),((0,1,1,1,1),0,0),((0,7,7,7,7),0,0)],[(0,0),(1,1),(2,2),(3,3),(4,4),(5,5),(6,6)],[],[(0,0,57,7),(0,0,63,1),(0,0,61,8),(8,1,5,9),(7,1,5,10)],0,0),7)] = true := by decide +kernel
theorem tw63l8 : achk [tC414, tC410, tC201] tw63O [56] 80 [(83, (rst (rst tw63C 11 8 8) 5 0 (199 - 8)), 0), (56,([((2,13,0,0,0),0,0),((2,103,0,0,0),0,0),((0,0,496,0,0),0,0),((0,1,199,0,15),0,0),((0,128,255,0,15),0,0),((0,0,127,0,15),0,0),((0,1,9,1,9),0,0),((2,97,0,0,0),0,0),((2,101,0,0,0),0,0),((0,1,1,1,1),0,0),((0,8,8,8,8),0,0)],[(0,0),(1,1),(2,2),(3,3),(4,4),(5,5),(6,6)],[],[(0,0,57,7),(0,0,63,1),(0,0,61,8),(8,1,5,9),(7,1,5,10)],0,0),7)] = true := by decide +kernel
theorem tw63l9 : achk [tC414, tC410, tC201] tw63O [56] 80 [(83, (rst (rst tw63C 11 9 9) 5 0 (199 - 9)), 0), (56,([((2,13,0,0,0),0,0),((2,103,0,0,0),0,0),((0,0,496,0,0),0,0),((0,1,199,0,15),0,0),((0,128,255,0,15),0,0),((0,0,127,0,15),0,0),((0,1,10,1,10),0,0),((2,97,0,0,0),0,0),((2,101,0,0,0),0,0),((0,1,1,1,1),0,0),((0,9,9,9,9),0,0)],[(0,0),(1,1),(2,2),(3,3),(4,4),(5,5),(6,6)],[],[(0,0,57,7),(0,0,63,1),(0,0,61,8),(8,1,5,9),(7,1,5,10)],0,0),7)] = true := by decide +kernel
theorem tw63l10 : achk [tC414, tC410, tC201] tw63O [56] 80 [(83, (rst (rst tw63C 11 10 10) 5 0 (199 - 10)), 0), (56,([((2,13,0,0,0),0,0),((2,103,0,0,0),0,0),((0,0,496,0,0),0,0),((0,1,199,0,15),0,0),((0,128,255,0,15),0,0),((0,0,127,0,15),0,0),((0,1,11,1,11),0,0),((2,97,0,0,0),0,0),((2,101,0,0,0),0,0),((0,1,1,1,1),0,0),((0,10,10,10,10),0,0)],[(0,0),(1,1),(2,2),(3,3),(4,4),(5,5),(6,6)],[],[(0,0,57,7),(0,0,63,1),(0,0,61,8),(8,1,5,9),(7,1,5,10)],0,0),7)] = true := by decide +kernel
theorem tw63l11 : achk [tC414, tC410, tC201] tw63O [56] 80 [(83, (rst (rst tw63C 11 11 11) 5 0 (199 - 11)), 0), (56,([((2,13,0,0,0),0,0),((2,103,0,0,0),0,0),((0,0,496,0,0),0,0),((0,1,199,0,15),0,0),((0,128,255,0,15),0,0),((0,0,127,0,15),0,0),((0,1,12,1,12),0,0),((2,97,0,0,0),0,0),((2,101,0,0,0),0,0),((0,1,1,1,1),0,0),((0,11,11,11,11),0,0)],[(0,0),(1,1),(2,2),(3,3),(4,4),(5,5),(6,6)],[],[(0,0,57,7),(0,0,63,1),(0,0,61,8),(8,1,5,9),(7,1,5,10)],0,0),7)] = true := by decide +kernel
theorem tw63l12 : achk [tC414, tC410, tC201] tw63O [56] 80 [(83, (rst (rst tw63C 11 12 12) 5 0 (199 - 12)), 0), (56,([((2,13,0,0,0),0,0),((2,103,0,0,0),0,0),((0,0,496,0,0),0,0),((0,1,199,0,15),0,0),((0,128,255,0,15),0,0),((0,0,127,0,15),0,0),((0,1,13,1,13),0,0),((2,97,0,0,0),0,0),((2,101,0,0,0),0,0),((0,1,1,1,1),0,0),((0,12,12,12,12),0,0)],[(0,0),(1,1),(2,2),(3,3),(4,4),(5,5),(6,6)],[],[(0,0,57,7),(0,0,63,1),(0,0,61,8),(8,1,5,9),(7,1,5,10)],0,0),7)] = true := by decide +kernel
theorem tw63l13 : achk [tC414, tC410, tC201] tw63O [56] 80 [(83, (rst (rst tw63C 11 13 13) 5 0 (199 - 13)), 0), (56,([((2,13,0,0,0),0,0),((2,103,0,0,0),0,0),((0,0,496,0,0),0,0),((0,1,199,0,15),0,0),((0,128,255,0,15),0,0),((0,0,127,0,15),0,0),((0,1,14,1,14),0,0),((2,97,0,0,0),0,0),((2,101,0,0,0),0,0),((0,1,1,1,1),0,0),((0,13,13,13,13),0,0)],[(0,0),(1,1),(2,2),(3,3),(4,4),(5,5),(6,6)],[],[(0,0,57,7),(0,0,63,1),(0,0,61,8),(8,1,5,9),(7,1,5,10)],0,0),7)] = true := by decide +kernel
theorem tw63l14 : achk [tC414, tC410, tC201] tw63O [56] 80 [(83, (rst (rst tw63C 11 14 14) 5 0 (199 - 14)), 0), (56,([((2,13,0,0,0),0,0),((2,103,0,0,0),0,0),((0,0,496,0,0),0,0),((0,1,199,0,15),0,0),((0,128,255,0,15),0,0),((0,0,127,0,15),0,0),((0,1,15,1,15),0,0),((2,97,0,0,0),0,0),((2,101,0,0,0),0,0),((0,1,1,1,1),0,0),((0,14,14,14,14),0,0)],[(0,0),(1,1),(2,2),(3,3),(4,4),(5,5),(6,6)],[],[(0,0,57,7),(0,0,63,1),(0,0,61,8),(8,1,5,9),(7,1,5,10)],0,0),7)] = true := by decide +kernel
theorem tw63l15 : achk [tC414, tC410, tC201] tw63O [56] 80 [(83, (rst (rst tw63C 11 15 15) 5 0 (199 - 15)), 0), (56,([((2,13,0,0,0),0,0),((2,103,0,0,0),0,0),((0,0,496,0,0),0,0),((0,1,199,0,15),0,0),((0,128,255,0,15),0,0),((0,0,127,0,15),0,0),((0,1,16,0,15),0,0),((2,97,0,0,0),0,0),((2,101,0,0,0),0,0),((0,1,1,1,1),0,0),((0,15,15,15,15),0,0)],[(0,0),(1,1),(2,2),(3,3),(4,4),(5,5),(6,6)],[],[(0,0,57,7),(0,0,63,1),(0,0,61,8),(8,1,5,9),(7,1,5,10)],0,0),7)] = true := by decide +kernel
theorem tw63e : achk [tC414, tC410, tC201] tw63O [] 40 [(173, tw63E, 0)] = true := by decide +kernel
theorem tw63n : arun [tC414, tC410, tC201] tw63X tw63N [(81, tw63B, 0), (173, tw63E, 0)] [81, 132, 173] 80 tw63N.1 tw63N.2.1 = true := by decide +kernel
theorem tw63a : arun [tC414, tC410, tC201] tw63X (0, aent tw63X, 0) [tw63N, (81, tw63B, 0), (173, tw63E, 0)] [81, 132, 173] 80 0 (aent tw63X) = true := by decide +kernel
set_option maxHeartbeats 1000000 in
theorem tV421 : Valid tC421 := by
  intro Z0 σ0 vs hT hL hE hJ
  have hJ0 : JJ σ0 := hJ (by decide)
  have hlen : vs.length = (cEnv tC421).length := hE.1
  have KL : ∀ v : Int, 1 ≤ v → v ≤ 15 → NOK tw63O Z0 σ0 vs (Post tw63O Z0 σ0 vs) (83, (rst (rst tw63C 11 v v) 5 0 (199 - v)), 0) := by
    intro v h1 h2
    have hv : v = 1 ∨ v = 2 ∨ v = 3 ∨ v = 4 ∨ v = 5 ∨ v = 6 ∨ v = 7 ∨ v = 8 ∨ v = 9 ∨ v = 10 ∨ v = 11 ∨ v = 12 ∨ v = 13 ∨ v = 14 ∨ v = 15 := by omega
    rcases hv with rfl | rfl | rfl | rfl | rfl | rfl | rfl | rfl | rfl | rfl | rfl | rfl | rfl | rfl | rfl
    · exact achk_ok (X := tw63O) (VA_cons tV414 (VA_cons tV410 (VA_cons tV201 VA_nil))) hlen (ret_ok hlen) _ tw63l1 _ List.mem_cons_self
    · exact achk_ok (X := tw63O) (VA_cons tV414 (VA_cons tV410 (VA_cons tV201 VA_nil))) hlen (ret_ok hlen) _ tw63l2 _ List.mem_cons_self
    · exact achk_ok (X := tw63O) (VA_cons tV414 (VA_cons tV410 (VA_cons tV201 VA_nil))) hlen (ret_ok hlen) _ tw63l3 _ List.mem_cons_self
    · exact achk_ok (X := tw63O) (VA_cons tV414 (VA_cons tV410 (VA_cons tV201 VA_nil))) hlen (ret_ok hlen) _ tw63l4 _ List.mem_cons_self
    · exact achk_ok (X := tw63O) (VA_cons tV414 (VA_cons tV410 (VA_cons tV201 VA_nil))) hlen (ret_ok hlen) _ tw63l5 _ List.mem_cons_self
    · exact achk_ok (X := tw63O) (VA_cons tV414 (VA_cons tV410 (VA_cons tV201 VA_nil))) hlen (ret_ok hlen) _ tw63l6 _ List.mem_cons_self
    · exact achk_ok (X := tw63O) (VA_cons tV414 (VA_cons tV410 (VA_cons tV201 VA_nil))) hlen (ret_ok hlen) _ tw63l7 _ List.mem_cons_self
    · exact achk_ok (X := tw63O) (VA_cons tV414 (VA_cons tV410 (VA_cons tV201 VA_nil))) hlen (ret_ok hlen) _ tw63l8 _ List.mem_cons_self
    · exact achk_ok (X := tw63O) (VA_cons tV414 (VA_cons tV410 (VA_cons tV201 VA_nil))) hlen (ret_ok hlen) _ tw63l9 _ List.mem_cons_self
    · exact achk_ok (X := tw63O) (VA_cons tV414 (VA_cons tV410 (VA_cons tV201 VA_nil))) hlen (ret_ok hlen) _ tw63l10 _ List.mem_cons_self
    · exact achk_ok (X := tw63O) (VA_cons tV414 (VA_cons tV410 (VA_cons tV201 VA_nil))) hlen (ret_ok hlen) _ tw63l11 _ List.mem_cons_self
    · exact achk_ok (X := tw63O) (VA_cons tV414 (VA_cons tV410 (VA_cons tV201 VA_nil))) hlen (ret_ok hlen) _ tw63l12 _ List.mem_cons_self
    · exact achk_ok (X := tw63O) (VA_cons tV414 (VA_cons tV410 (VA_cons tV201 VA_nil))) hlen (ret_ok hlen) _ tw63l13 _ List.mem_cons_self
    · exact achk_ok (X := tw63O) (VA_cons tV414 (VA_cons tV410 (VA_cons tV201 VA_nil))) hlen (ret_ok hlen) _ tw63l14 _ List.mem_cons_self
    · exact achk_ok (X := tw63O) (VA_cons tV414 (VA_cons tV410 (VA_cons tV201 VA_nil))) hlen (ret_ok hlen) _ tw63l15 _ List.mem_cons_self
  have KE : NOK tw63O Z0 σ0 vs (Post tw63O Z0 σ0 vs) (173, tw63E, 0) := achk_ok (X := tw63O) (VA_cons tV414 (VA_cons tV410 (VA_cons tV201 VA_nil))) hlen (ret_ok hlen) _ tw63e _ List.mem_cons_self
  have m1 : (cMod tw63X).all (fun q => inM (cMod tw63O) q.1 q.2) = true := by decide +kernel
  have m2 : (cNk tw63X).all (fun m => (cNk tw63O).contains m) = true := by decide +kernel
  have RP : RetP tw63X Z0 σ0 vs (Post tw63O Z0 σ0 vs) := by
    intro Z ρ α lv st σ q hw I h
    obtain ⟨r, hr, Z', a1, a2, a3, a4, a5⟩ := ret_ok (X := tw63X) hlen Z ρ α lv st σ q hw I h
    exact ⟨r, hr, Z', a1, a2, a3.mods m1 m2, ⟨fun _ => a4.1 rfl, fun h => absurd rfl h, fun h => absurd rfl h⟩, a5⟩
  have IO : ∀ {Z : Nat → Prop} {ρ : Nat → Value} {α : AS} {lv : LV} {st : List Value} {σ : ps}, Inv tw63X (rwOf tw63X vs) Z0 σ0 vs Z ρ α lv st σ → Inv tw63O (rwOf tw63O vs) Z0 σ0 vs Z ρ α lv st σ := fun I => ⟨I.1, I.2.1.mods m1 m2, ⟨fun _ => I.2.2.1.1 rfl, fun h => absurd rfl h, fun h => absurd rfl h⟩, I.2.2.2⟩
  have KE' : NOK tw63X Z0 σ0 vs (Post tw63O Z0 σ0 vs) (173, tw63E, 0) := fun Z ρ lv st σ I => KE Z ρ lv st σ (IO I)
  have KB : NOK tw63X Z0 σ0 vs (Post tw63O Z0 σ0 vs) (81, tw63B, 0) := by
    intro Z ρ lv st σ I
    have J := (I.2.2.1.2.2 (by decide)).2
    obtain ⟨pa, epa, hpa, kpa, _, _⟩ := I.1.obj (i := 7) (by decide +kernel)
    obtain ⟨wa, ewa, hwa, kwa, _, _⟩ := I.1.obj (i := 9) (by decide +kernel)
    obtain ⟨p, ep, p1, p2, _⟩ := I.1.int (i := 5) (by decide +kernel)
    obtain ⟨y1, ey1, _, _, _⟩ := I.1.int (i := 11) (by decide +kernel)
    obtain ⟨c, ec, c1, c2, _⟩ := I.1.int (i := 6) (by decide +kernel)
    obtain ⟨on, eon, o1, o2, _⟩ := I.1.int (i := 12) (by decide +kernel)
    have p1 : (0 : Int) ≤ p.toInt := p1
    have p2 : p.toInt ≤ 127 := p2
    have o1 : (1 : Int) ≤ on.toInt := o1
    have kpa : sK σ pa = 97 := kpa
    have kwa : sK σ wa = 101 := kwa
    have q1 := ch_ix (x := 5) (I.1.2.2.2.1 (7, 1, 5, 11) (by decide +kernel)) epa ep
    have q3 := ch_ix (x := 5) (I.1.2.2.2.1 (9, 1, 5, 12) (by decide +kernel)) ewa ep
    have hp : p.toNatClampNeg < 200 := by show p.toInt.toNat < 200; omega
    obtain ⟨a1, a2, a3, a4⟩ := J pa wa hpa hwa kpa kwa p.toNatClampNeg hp (by
      rw [q3, eon]
      intro q
      have q : on = 0 := q
      rw [q] at o1
      exact absurd o1 (by decide))
    rw [q1, ey1] at a1 a2 a3
    have a1 : 1 ≤ y1.toInt := a1
    have a2 : y1.toInt ≤ 15 := a2
    have hpc : (p.toNatClampNeg : Int) = p.toInt := n_clamp p1
    have a3 : (p.toNatClampNeg : Int) + y1.toInt < 200 := a3
    have c1 : (0 : Int) ≤ c.toInt := c1
    have c2 : c.toInt ≤ 0 := c2
    have ec0 : c = 0 := Int32.toInt_inj.mp (by show c.toInt = 0; omega)
    have hst : st = .int c :: .int p :: .ref pa :: [8, 1].map ρ := by
      rw [I.1.stk (l := [6, 5, 7, 8, 1]) (by decide +kernel)]
      show [ρ 6, ρ 5, ρ 7, ρ 8, ρ 1] = _
      rw [ec, ep, epa]
      rfl
    have IC : Inv tw63O (rwOf tw63O vs) Z0 σ0 vs Z ρ tw63C lv (ρ 11 :: [8, 1].map ρ) σ := ⟨⟨(IO I).1.1, (IO I).1.2.1, rfl, (IO I).1.2.2.2⟩, (IO I).2⟩
    have I1 := IC.rsts (i := 11) (lo := y1.toInt) (hi := y1.toInt) (by decide +kernel) ey1 (Int.le_refl _) (Int.le_refl _)
    have I3 := I1.rsts (i := 5) (lo := 0) (hi := 199 - y1.toInt) (rst_tag (by decide +kernel)) ep p1 (by omega)
    have K := KL y1.toInt a1 a2 Z ρ lv _ σ I3
    rw [hst]
    refine wp_step (q := (10, 82, 0, 0, [])) (pc' := 82) (lv' := lv) (st' := .int p :: .ref pa :: [8, 1].map ρ) (σ' := σ) (by decide +kernel) (by decide) (pret_none (by decide)) ?_ ?_
    · show f_iop (10, 82, 0, 0, []) lv (.int c :: .int p :: .ref pa :: [8, 1].map ρ) σ = _
      rw [ec0]
      show some (82, lv, .int (p + 0) :: .ref pa :: [8, 1].map ρ, σ) = _
      rw [Int32.add_zero]
    · refine wp_step (q := (24, 83, 0, 0, [])) (pc' := 83) (lv' := lv) (st' := ρ 11 :: [8, 1].map ρ) (σ' := σ) (by decide +kernel) (by decide) (pret_none (by decide)) ?_ K
      show f_iald (24, 83, 0, 0, []) lv (.int p :: .ref pa :: [8, 1].map ρ) σ = _
      unfold f_iald
      simp only
      have hr : isRow σ pa 1 = true := by
        unfold isRow
        rw [kpa]
        simp only [hpa, decide_true, Bool.true_and]
        decide +kernel
      rw [hr, kpa, n_pin p1 (by show p.toInt < ((rk 97).2 : Int); have : ((rk 97).2 : Int) = 200 := (by decide +kernel); omega)]
      simp only [Bool.and_self, if_true]
      rw [q1, ey1]
  have KN : NOK tw63X Z0 σ0 vs (Post tw63O Z0 σ0 vs) tw63N := node_ok (X := tw63X) (VA_cons tV414 (VA_cons tV410 (VA_cons tV201 VA_nil))) hlen RP (fun t ht => by
    rcases List.mem_cons.mp ht with rfl | ht
    · exact KB
    · rw [List.mem_singleton] at ht; subst ht; exact KE') tw63n
  have K0 : NOK tw63X Z0 σ0 vs (Post tw63O Z0 σ0 vs) (0, aent tw63X, 0) := node_ok (X := tw63X) (VA_cons tV414 (VA_cons tV410 (VA_cons tV201 VA_nil))) hlen RP (fun t ht => by
    rcases List.mem_cons.mp ht with rfl | ht
    · exact KN
    · rcases List.mem_cons.mp ht with rfl | ht
      · exact KB
      · rw [List.mem_singleton] at ht; subst ht; exact KE') tw63a
  have w0 : wp tC421.1 0 (lv_args 0 (vs.take (np tC421.1))) [] σ0 (Post tw63O Z0 σ0 vs) := K0 Z0 _ _ _ σ0 (ent_ok (X := tw63X) hT hL hE (fun _ => hJ0))
  refine wp_mono (wp_self w0) ?_
  intro r σ' hr
  obtain ⟨⟨Z', b1, b2, b3, b4, b5⟩, N, hN⟩ := hr
  refine ⟨Z', b1, b2, b3, ⟨b4.1, b4.2.1, fun _ => ?_⟩, b5⟩
  obtain ⟨v0, v1, v2, rfl⟩ := list3 (show vs.length = 3 from hlen)
  obtain ⟨t, et, zt, kt⟩ := (hE.2.1 0 _ _ rfl rfl).r rfl
  obtain ⟨b, eb, zb, kb⟩ := (hE.2.1 1 _ _ rfl rfl).r rfl
  obtain ⟨i, ei, i1, i2, _⟩ := (hE.2.1 2 _ _ rfl rfl).i rfl
  have i1 : (0 : Int) ≤ i.toInt := i1
  have i2 : i.toInt ≤ 496 := i2
  subst et eb ei
  have hf : sV σ0 t 63 = .ref b := ch_fl (i := 0) (j := 63) (v := 1) (hE.2.2.1 (0, 0, 63, 1) List.mem_cons_self) rfl
  have W := wd_of hT hL zt kt
  have R := fun j (hj : isRw j = true) => rowsA_ok hT zt kt hj
  have eb : b = rowsA σ0 t 63 := by
    have := (R 63 (by decide)).1
    rw [hf] at this
    cases this
    rfl
  subst eb
  have hps : (gI (vw t (rowsA σ0 t) σ0) 58 0).toInt ≤ 200 := by
    obtain ⟨z, ez, z1, z2, _⟩ := (vw_tyf (A := rowsA σ0 t) hT zt kt (j := 58) (by decide) (by decide) (i := 0)).i (by decide +kernel)
    unfold gI
    rw [ez]
    exact z2
  obtain ⟨_, S, _, _, _, J⟩ := takeWord_ (x := (r, σ')) W hN (Or.inr rfl) ⟨i1, by omega⟩ hps (jv_of W (R 57 (by decide)).2.2.1 (R 61 (by decide)).2.2.1 hJ0.2)
  have U := JU.st S hJ0.1
  exact ⟨U, jm_of S.1 (by rw [S.2.1]; exact (R 57 (by decide)).2.2.1) (by rw [S.2.1]; exact (R 61 (by decide)).2.2.1) U J⟩
