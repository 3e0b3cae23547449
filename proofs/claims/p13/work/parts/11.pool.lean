/-- the class's heap as a pool: kind of an address; its fields; rows of numbers; rows of references -/
abbrev pS : Type := (Nat → Nat) × (Nat → Nat → Value) × (Nat → Nat → Int32) × (Nat → Nat → Option Nat)
/-- how many fields an object of a kind has -/
def nF (k : Nat) : Nat := [5, 2, 10, 16, 6, 6, 5, 9, 2, 2, 6, 2, 10].getD k 0
/-- the rows by kind: 20 a word's signs, 21 a packet's bytes, 22 its words' places, 23 counts, 24 entries, 25 hosts, 26 the queue, 27 questions, 28 replies, 29 services, 30 told -/
def pR (cy : Nat → ClassId) (k : Nat) (r : Nat → Int32) (q : Nat → Option Nat) : va_E :=
  if k = 20 then .inl (cy 0, 15, .inl r) else if k = 21 then .inl (cy 0, 200, .inl r) else if k = 22 then .inl (cy 1, 17, .inl r) else if k = 23 then .inl (cy 1, 10, .inl r)
  else if k = 24 then .inl (cy 4, 24, .inr (.inr (.inr (.inr q)))) else if k = 25 then .inl (cy 5, 8, .inr (.inr (.inr (.inr q)))) else if k = 26 then .inl (cy 6, 1025, .inr (.inr (.inr (.inr q))))
  else if k = 27 then .inl (cy 7, 4, .inr (.inr (.inr (.inr q)))) else if k = 28 then .inl (cy 8, 4, .inr (.inr (.inr (.inr q)))) else if k = 29 then .inl (cy 9, 4, .inr (.inr (.inr (.inr q)))) else .inl (cy 10, 8, .inr (.inr (.inr (.inr q))))
def pF (cy : Nat → ClassId) (S : pS) (a : Nat) : va_E := if S.1 a < 13 then .inr (S.1 a, (List.range (nF (S.1 a))).map (S.2.1 a)) else pR cy (S.1 a) (S.2.2.1 a) (S.2.2.2 a)
theorem pF_obj {cy : Nat → ClassId} {S : pS} {a k : Nat} (h : S.1 a = k) (hk : k < 13) : pF cy S a = .inr (k, (List.range (nF k)).map (S.2.1 a)) := by
  unfold pF
  rw [h, if_pos hk]
def pV (V : Nat → Nat → Value) (a j : Nat) (v : Value) : Nat → Nat → Value := fun b i => if b = a ∧ i = j then v else V b i
theorem pV_self (V : Nat → Nat → Value) (a j : Nat) (v : Value) : pV V a j v a j = v := by simp [pV]
theorem pV_ne {V : Nat → Nat → Value} {a j b i : Nat} (v : Value) (h : ¬ (b = a ∧ i = j)) : pV V a j v b i = V b i := by simp [pV, h]
theorem pV_map {V : Nat → Nat → Value} {a j n : Nat} {v : Value} : ((List.range n).map (V a)).set j v = (List.range n).map (pV V a j v a) := by
  apply List.ext_getElem?
  intro i
  rw [List.getElem?_set, List.getElem?_map, List.getElem?_map, List.length_map, List.length_range]
  by_cases hi : i < n
  · rw [List.getElem?_range hi]
    by_cases hj : j = i
    · subst hj; simp [hi, pV]
    · simp [hj, pV, Ne.symm hj]
  · rw [List.getElem?_eq_none (by simp; omega)]
    by_cases hj : j = i
    · subst hj; simp [hi]
    · simp [hj]
theorem pF_put {cy : Nat → ClassId} {S : pS} {a k j : Nat} {v : Value} (h : S.1 a = k) (hk : k < 13) (b : Nat) : va_up (pF cy S) a (.inr (k, ((List.range (nF k)).map (S.2.1 a)).set j v)) b = pF cy (S.1, pV S.2.1 a j v, S.2.2) b := by
  by_cases hb : b = a
  · subst hb
    rw [va_up_self, pF_obj (S := (S.1, pV S.2.1 b j v, S.2.2)) h hk, pV_map]
  · rw [va_up_ne _ _ hb]
    have e : pV S.2.1 a j v b = S.2.1 b := by funext i; exact pV_ne v (fun q => hb q.1)
    unfold pF
    rw [show (S.1, pV S.2.1 a j v, S.2.2).2.1 b = S.2.1 b from e]
section XP
variable {p : Program} {l : Launch} {e : Env} {R : Room} {s : State} {m : MethodId} {args : Array Value} {below : List Frame} {meth : Method} {c : Code} {H H0 : Heap} {locs : List Loc} {cells slots pc : Nat} {Q : State → Prop} {D : va_G} {cy : Nat → ClassId} {A : Nat → Prop} {ls : Array Slot} {rest : List Value} {cc : ByteArray} {X : va_W} {L : List Nat} {S : pS}
/-- a field of an object of the pool is read -/
theorem p_get (hexec : p.tables.exec = Jvm.exec) (hb : c.code = cc) {own ref C : String} {T : u_T} {N index a k : Nat} (hts : ∀ w ∈ xG, w.before args s = true) (hin : ∀ w ∈ u_ws C T N, w ∈ xG) (hown : s.vm.findClass own = some m.cls) (hK : xK D cy s) (hP : va_P D vwCl (X ++ va_pl L (pF cy S)) H) (hL : a ∈ L) (hk : S.1 a = k) (hk13 : k < 13) (hN : nF k = N) (hc : vwCl[k]? = some (C, T, N)) (j : Nat) (hj : j < N) (hlink : (Cond.fieldLink own index ref (T j).2.1 (T j).2.2.1).before args s = true) (hsame : ∀ x, s.fieldFound? (T j).1 (T j).2.1 (T j).2.2.1 = some x → s.fieldFound? ref (T j).2.1 (T j).2.2.1 = some x) (hdg : decode cc pc = .ok (.getfield index, 3))
    (kk : W p l e R s m args below meth c H locs cells slots Q (F0 m (pc + 3) ls (S.2.1 a j :: rest))) : W p l e R s m args below meth c H locs cells slots Q (F0 m pc ls (.ref a :: rest)) := by
  obtain ⟨q0, h0⟩ := va_pl_get (X := X) (f := pF cy S) hL
  rw [pF_obj hk hk13, hN] at h0
  exact va_get (D := D) (ci := k) hexec hb hts hin hown hK.1 hP q0 h0 hc j hj hlink hsame (by rw [List.getElem?_map, List.getElem?_range hj]; rfl) hdg kk
/-- a field of an object of the pool is written -/
theorem p_put (hexec : p.tables.exec = Jvm.exec) (hb : c.code = cc) {own ref C : String} {T : u_T} {N index a k : Nat} (hts : ∀ w ∈ xG, w.before args s = true) (hin : ∀ w ∈ u_ws C T N, w ∈ xG) (ty0 : Nat → FieldType) (hty : ∀ k, k < N → parseFieldDescriptor (T k).2.2.1 = some (ty0 k)) (hnm : ∀ a, a < N → ∀ b, b < N → a ≠ b → (T a).2.1 ≠ (T b).2.1) (hown : s.vm.findClass own = some m.cls) (hK : xK D cy s) (hP : va_P D vwCl (X ++ va_pl L (pF cy S)) H) (hD : va_D A (X ++ va_pl L (pF cy S))) (hS0 : va_S A H0 H locs) (hL : a ∈ L) (hk : S.1 a = k) (hk13 : k < 13) (hN : nF k = N) (hc : vwCl[k]? = some (C, T, N)) (j : Nat) (hj : j < N) (hlink : (Cond.fieldLink own index ref (T j).2.1 (T j).2.2.1).before args s = true) (hsame : ∀ x, s.fieldFound? (T j).1 (T j).2.1 (T j).2.2.1 = some x → s.fieldFound? ref (T j).2.1 (T j).2.2.1 = some x) (hfin : (T j).2.2.2 = false) {ty : FieldType} {v : Value} (hd : parseFieldDescriptor (T j).2.2.1 = some ty) (hn : narrow ty v = v) (hfit : fits ty v = true) (hdg : decode cc pc = .ok (.putfield index, 3))
    (kk : ∀ (H1 : Heap) (locs1 : List Loc), va_P D vwCl (X ++ va_pl L (pF cy (S.1, pV S.2.1 a j v, S.2.2))) H1 → va_D A (X ++ va_pl L (pF cy (S.1, pV S.2.1 a j v, S.2.2))) → va_S A H0 H1 locs1 → W p l e R s m args below meth c H1 locs1 cells slots Q (F0 m (pc + 3) ls rest)) : W p l e R s m args below meth c H locs cells slots Q (F0 m pc ls (v :: .ref a :: rest)) := by
  obtain ⟨q0, h0⟩ := va_pl_get (X := X) (f := pF cy S) hL
  have h1 := h0
  rw [pF_obj hk hk13, hN] at h1
  have e1 : (X ++ va_pl L (pF cy S)).set q0 (a, .inr (k, ((List.range N).map (S.2.1 a)).set j v)) = X ++ va_pl L (pF cy (S.1, pV S.2.1 a j v, S.2.2)) := by
    rw [va_pl_set hD hL h0, ← hN]
    exact congrArg (fun z => X ++ z) (va_pl_congr (fun b => pF_put hk hk13 b))
  refine va_put (D := D) (ci := k) (ty := ty) hexec hb hts hin ty0 hty hnm hown hK.1 hP hD hS0 q0 h1 hc j hj hlink hsame hfin hd hn hfit (by rw [List.length_map, List.length_range]; exact hj) hdg (fun H1 locs1 hP1 hD1 hS1 => ?_)
  rw [e1] at hP1 hD1
  exact kk H1 locs1 hP1 hD1 hS1
end XP
