abbrev pMi (l : Launch) (D : va_G) (cy : Nat → ClassId) (y : MethodName) (c : ByteArray) (n : Nat) (r : Option FieldType) (rm : Room) (av : List Value) (L : List Nat) (S : pS) (post : Int32 → List Nat × pS → Prop) : Prop := ∀ sz : Nat, Met l y (xw y c n r) rm (va_Pc av (xPre D cy sz (va_pl L (pF cy S)))) (va_Qi post (xB D (va_A (va_pl L (pF cy S)) sz) (fun u : List Nat × pS => va_pl u.1 (pF cy u.2))) (va_A (va_pl L (pF cy S)) sz)) rm.cells rm.slots (va_A (va_pl L (pF cy S)) sz)
abbrev pMl (l : Launch) (D : va_G) (cy : Nat → ClassId) (y : MethodName) (c : ByteArray) (n : Nat) (rm : Room) (av : List Value) (L : List Nat) (S : pS) (post : Int64 → List Nat × pS → Prop) : Prop := ∀ sz : Nat, Met l y (xw y c n (some .long)) rm (va_Pc av (xPre D cy sz (va_pl L (pF cy S)))) (va_Ql post (xB D (va_A (va_pl L (pF cy S)) sz) (fun u : List Nat × pS => va_pl u.1 (pF cy u.2))) (va_A (va_pl L (pF cy S)) sz)) rm.cells rm.slots (va_A (va_pl L (pF cy S)) sz)
abbrev pMq (l : Launch) (D : va_G) (cy : Nat → ClassId) (y : MethodName) (c : ByteArray) (n : Nat) (r : Option FieldType) (rm : Room) (av : List Value) (L : List Nat) (S : pS) (post : Option Nat → List Nat × pS → Prop) : Prop := ∀ sz : Nat, Met l y (xw y c n r) rm (va_Pc av (xPre D cy sz (va_pl L (pF cy S)))) (va_Qq post (xB D (va_A (va_pl L (pF cy S)) sz) (fun u : List Nat × pS => va_pl u.1 (pF cy u.2))) (va_A (va_pl L (pF cy S)) sz)) rm.cells rm.slots (va_A (va_pl L (pF cy S)) sz)
/-- a new object of kind k with fields fs at q -/
def pN (S : pS) (q k : Nat) (fs : List Value) : pS := (va_up S.1 q k, va_up S.2.1 q (fun j => fs.getD j .null), S.2.2)
theorem pN_map {fs : List Value} {n : Nat} (h : fs.length = n) : (List.range n).map (fun j => fs.getD j .null) = fs := by
  apply List.ext_getElem?
  intro i
  rw [List.getElem?_map]
  by_cases hi : i < n
  · rw [List.getElem?_range hi]; simp [h, hi]
  · rw [List.getElem?_eq_none (by simp; omega), List.getElem?_eq_none (by omega)]; rfl
theorem pF_new {cy : Nat → ClassId} {S : pS} {q k : Nat} {fs : List Value} (hk : k < 13) (hf : fs.length = nF k) (b : Nat) : va_up (pF cy S) q (.inr (k, fs)) b = pF cy (pN S q k fs) b := by
  by_cases hb : b = q
  · subst hb
    rw [va_up_self, pF_obj (S := pN S b k fs) (va_up_self _ _ _) hk]
    rw [show (pN S b k fs).2.1 b = (fun j => fs.getD j .null) from va_up_self _ _ _, pN_map hf]
  · rw [va_up_ne _ _ hb]
    unfold pF
    rw [show (pN S q k fs).1 b = S.1 b from va_up_ne _ _ hb, show (pN S q k fs).2.1 b = S.2.1 b from va_up_ne _ _ hb]
    rfl
section XN
variable {p : Program} {l : Launch} {e : Env} {R : Room} {s : State} {m : MethodId} {args : Array Value} {below : List Frame} {meth : Method} {c : Code} {H H0 : Heap} {locs : List Loc} {cells slots pc : Nat} {Q : State → Prop} {D : va_G} {cy : Nat → ClassId} {A : Nat → Prop} {ls : Array Slot} {rest : List Value} {cc : ByteArray} {X : va_W} {L : List Nat} {S : pS}
/-- 'new': an object joins the pool -/
theorem p_new (hexec : p.tables.exec = Jvm.exec) (hb : c.code = cc) {own C : String} {T : u_T} {N k index : Nat} (hts : ∀ w ∈ xG, w.before args s = true) (hin : ∀ w ∈ u_ws C T N, w ∈ xG) (ty : Nat → FieldType) (hty : ∀ k, k < N → parseFieldDescriptor (T k).2.2.1 = some (ty k)) (hown : s.vm.findClass own = some m.cls) (hcl : (Cond.classLink own index C).before args s = true) (hinst : (Cond.instantiable C N).before args s = true) (hini : (Cond.initialized C).before args s = true)
    (hK : xK D cy s) (hP : va_P D vwCl (X ++ va_pl L (pF cy S)) H) (hD : va_D A (X ++ va_pl L (pF cy S))) (hS : va_S A H0 H locs) (hA : ∀ q, H0.size ≤ q → A q) (hk13 : k < 13) (hc : vwCl[k]? = some (C, T, N)) {fs : List Value} (hfl : fs.length = nF k) (hfs : ∀ j, j < N → defaultValue (ty j) = vp_V fs j) (hcells : cells + 1 ≤ R.cells) (hslots : slots + N ≤ R.slots) (hdg : decode cc pc = .ok (.new index, 3))
    (kk : ∀ (q : Nat) (H1 : Heap), q ∉ L → va_P D vwCl (X ++ va_pl (L ++ [q]) (pF cy (pN S q k fs))) H1 → va_D A (X ++ va_pl (L ++ [q]) (pF cy (pN S q k fs))) → va_S A H0 H1 locs → W p l e R s m args below meth c H1 locs (cells + 1) (slots + N) Q (F0 m (pc + 3) ls (.ref q :: rest))) : W p l e R s m args below meth c H locs cells slots Q (F0 m pc ls rest) := by
  refine va_new (ci := k) (fs := fs) hexec hb hts hin ty hty hown hcl hinst hini hK.1 hP hD hS hA hc hfs hcells hslots hdg (fun q H1 hP1 hD1 hS1 => ?_)
  have hq := va_pl_fresh2 hD1
  have e1 : (X ++ va_pl L (pF cy S)) ++ [(q, .inr (k, fs))] = X ++ va_pl (L ++ [q]) (pF cy (pN S q k fs)) := by
    rw [List.append_assoc, va_pl_push hq]
    exact congrArg (fun z => X ++ z) (va_pl_congr (fun b => pF_new hk13 hfl b))
  rw [e1] at hP1 hD1
  exact kk q H1 hq hP1 hD1 hS1
end XN
