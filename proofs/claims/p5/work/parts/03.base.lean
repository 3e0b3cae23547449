/-- the tables' good words: every contract's words are its own code and these -/
def xG : List Cond := lw_tbl.filter goodWord
theorem xin {w : Cond} (i : Nat) (h : tables_1[i]? = some w) (g : goodWord w = true) : w ∈ xG := List.mem_filter.mpr ⟨List.mem_append_right _ (List.mem_of_getElem? h), g⟩
theorem xinS {w : Cond} (i : Nat) (h : (k2_sels lw_privs)[i]? = some w) (g : goodWord w = true) : w ∈ xG := List.mem_filter.mpr ⟨List.mem_append_left _ (List.mem_of_getElem? h), g⟩
theorem xall (ws : List Cond) (ps : List Nat) (hp : ws = ps.filterMap (fun i => tables_1[i]?)) (h : ws.all goodWord = true) : ∀ w ∈ ws, w ∈ xG := by
  intro w hw
  have h1 := List.all_eq_true.mp h w hw
  rw [hp] at hw
  obtain ⟨i, -, hi⟩ := List.mem_filterMap.mp hw
  exact xin i hi h1
theorem xgood {w : Cond} (h : w ∈ xG) : (w.onTables && w.keeps) = true ∨ ∃ ty, w = .arrayClass ty := good_of_word (List.mem_filter.mp h).2
def xw (y : MethodName) (c : ByteArray) (n : Nat) (r : Option FieldType) : List Cond := .code y c n r :: xG
theorem xw_in {y : MethodName} {c : ByteArray} {n : Nat} {r : Option FieldType} (h : Cond.code y c n r ∈ xG) : ∀ w ∈ xw y c n r, w ∈ xG := fun w hw => (List.mem_cons.mp hw).elim (fun e => e ▸ h) id
theorem xw_good {y : MethodName} {c : ByteArray} {n : Nat} {r : Option FieldType} (h : Cond.code y c n r ∈ xG) : GoodIn xG (xw y c n r) := fun w hw => ⟨xw_in h w hw, xgood (xw_in h w hw)⟩
/-- the classes of the arrays -/
def xT (cy : Nat → ClassId) : List (ClassId × FieldType) := [(cy 0, .byte), (cy 1, .int), (cy 2, .long), (cy 3, .boolean), (cy 4, .object RX2), (cy 5, .object RX3), (cy 6, .object RX5), (cy 7, .object RX6), (cy 8, .object RX8), (cy 9, .object RX9), (cy 10, .object RX10)]
def xAO : List String := [RX2, RX3, RX5, RX6, RX8, RX9, RX10]
def xNest : List (String × Nat × MethodName) := [(RX12, 17, yX5_init), (RX7, 19, yX11_init), (RX7, 47, yX10_init), (RX10, 9, yX11_init), (RX3, 11, yX0_init), (RX3, 20, yX4_init), (RX4, 11, yX11_init), (RX1, 21, yX2_init), (RX2, 11, yX11_init), (RX3, 82, yX9_init), (RX9, 9, yX11_init), (RX3, 83, yX6_init), (RX6, 9, yX11_init), (RX3, 84, yX8_init), (RX8, 9, yX11_init)]
/-- what the tables say, beside the good words -/
def xK (D : va_G) (cy : Nat → ClassId) (U : State) : Prop := va_K D vwCl (xT cy) U ∧ (∀ C ∈ xAO, va_AO C U) ∧ ∀ q ∈ xNest, va_Nw (.methodLinkNest q.1 q.2.1 q.2.2 RX12) U
theorem xK.warm {D : va_G} {cy : Nat → ClassId} {s U : State} (hW : s.WarmedH U.vm) (h : xK D cy s) : xK D cy U := ⟨va_K.moved hW.alike h.1, fun C hC => (h.2.1 C hC).moved hW.alike, fun q hq => va_Nw.warmM hW (h.2.2 q hq)⟩
theorem xK.same {D : va_G} {cy : Nat → ClassId} {U V : State} (e : U.vm = V.vm) (h : xK D cy U) : xK D cy V := ⟨va_K.moved (by rw [e]; exact Vm.Alike.refl V.vm) h.1, fun C hC => (h.2.1 C hC).moved (by rw [e]; exact Vm.Alike.refl V.vm), fun q hq => va_Nw.same rfl e (h.2.2 q hq)⟩
def xPre (D : va_G) (cy : Nat → ClassId) (sz : Nat) (ws : va_W) (U : State) : Prop := U.heap.size = sz ∧ va_P D vwCl ws U.heap ∧ xK D cy U ∧ va_D (fun _ => True) ws
theorem xblind {D : va_G} {cy : Nat → ClassId} {sz : Nat} {ws : va_W} {av : List Value} : FrameBlind (va_Pc av (xPre D cy sz ws)) := fun a U g mk q => by
  obtain ⟨q0, q1, qP, qK, qD⟩ := q
  exact ⟨q0, q1, qP, qK.same rfl, qD⟩
theorem xpreS {D : va_G} {cy : Nat → ClassId} {A : Nat → Prop} {ws : va_W} {av : List Value} {s : State} {H : Heap} (hK : xK D cy s) (hP : va_P D vwCl ws H) (hD : va_D A ws) : PreS s H (va_Pc av (xPre D cy H.size ws)) av :=
  ⟨xblind, fun U hU hW => ⟨rfl, by rw [hU], by rw [hU]; exact hP, hK.warm hW, hD.weaken (fun _ _ _ _ => trivial)⟩⟩
theorem xpreV {D : va_G} {cy : Nat → ClassId} {A : Nat → Prop} {ws : va_W} {As : List Value} {s : State} {H : Heap} {b : Nat} (hK : xK D cy s) (hP : va_P D vwCl ws H) (hD : va_D A ws) (k ci : Nat) {fs : List Value} {q : vw_C} (he : ws[k]? = some (b, .inr (ci, fs))) (hc : vwCl[ci]? = some q) {C : String} (hC : q.1 = C) : PreV s H C b (va_Pc (.ref b :: As) (xPre D cy H.size ws)) As := by
  subst hC
  exact ⟨xblind, va_recv hK.1 hP hc he, fun U hU hW => ⟨rfl, by rw [hU], by rw [hU]; exact hP, hK.warm hW, hD.weaken (fun _ _ _ _ => trivial)⟩⟩
def xB {S : Type} (D : va_G) (A : Nat → Prop) (w : S → va_W) (u : S) (t : State) : Prop := va_P D vwCl (w u) t.heap ∧ va_D A (w u)
/-- contracts: void, int, long, a reference or null -/
abbrev xMv (l : Launch) (D : va_G) (cy : Nat → ClassId) (y : MethodName) (c : ByteArray) (n : Nat) (rm : Room) (av : List Value) (ws : va_W) {S : Type} (post : S → Prop) (w : S → va_W) : Prop := ∀ sz : Nat, Met l y (xw y c n none) rm (va_Pc av (xPre D cy sz ws)) (va_Qv post (xB D (va_A ws sz) w) (va_A ws sz)) rm.cells rm.slots (va_A ws sz)
abbrev xMi (l : Launch) (D : va_G) (cy : Nat → ClassId) (y : MethodName) (c : ByteArray) (n : Nat) (r : Option FieldType) (rm : Room) (av : List Value) (ws : va_W) {S : Type} (post : Int32 → S → Prop) (w : S → va_W) : Prop := ∀ sz : Nat, Met l y (xw y c n r) rm (va_Pc av (xPre D cy sz ws)) (va_Qi post (xB D (va_A ws sz) w) (va_A ws sz)) rm.cells rm.slots (va_A ws sz)
abbrev xMl (l : Launch) (D : va_G) (cy : Nat → ClassId) (y : MethodName) (c : ByteArray) (n : Nat) (rm : Room) (av : List Value) (ws : va_W) {S : Type} (post : Int64 → S → Prop) (w : S → va_W) : Prop := ∀ sz : Nat, Met l y (xw y c n (some .long)) rm (va_Pc av (xPre D cy sz ws)) (va_Ql post (xB D (va_A ws sz) w) (va_A ws sz)) rm.cells rm.slots (va_A ws sz)
abbrev xMq (l : Launch) (D : va_G) (cy : Nat → ClassId) (y : MethodName) (c : ByteArray) (n : Nat) (r : Option FieldType) (rm : Room) (av : List Value) (ws : va_W) {S : Type} (post : Option Nat → S → Prop) (w : S → va_W) : Prop := ∀ sz : Nat, Met l y (xw y c n r) rm (va_Pc av (xPre D cy sz ws)) (va_Qq post (xB D (va_A ws sz) w) (va_A ws sz)) rm.cells rm.slots (va_A ws sz)
section XC
variable {p : Program} {l : Launch} {e : Env} {R : Room} {s : State} {m : MethodId} {args : Array Value} {below : List Frame} {meth : Method} {c : Code} {H H0 : Heap} {locs : List Loc} {cells slots mc ms pc : Nat} {Q : State → Prop} {D : va_G} {cy : Nat → ClassId} {A : Nat → Prop} {ws : va_W} {ls : Array Slot} {st0 rest : List Value} {a : Array Value} {cc : ByteArray}
theorem x_ci {x y : Int32} (h : x = y) (k : W p l e R s m args below meth c H locs cells slots Q (F0 m pc ls (.int y :: rest))) : W p l e R s m args below meth c H locs cells slots Q (F0 m pc ls (.int x :: rest)) := h ▸ k
theorem x_cl {x y : Int64} (h : x = y) (k : W p l e R s m args below meth c H locs cells slots Q (F0 m pc ls (.long y :: rest))) : W p l e R s m args below meth c H locs cells slots Q (F0 m pc ls (.long x :: rest)) := h ▸ k
theorem x_cv {x y : Value} (h : x = y) (k : W p l e R s m args below meth c H locs cells slots Q (F0 m pc ls (y :: rest))) : W p l e R s m args below meth c H locs cells slots Q (F0 m pc ls (x :: rest)) := h ▸ k
theorem x_callv {S : Type} {post : S → Prop} {w : S → va_W} (wc wr : va_W) (hr : va_Run p l e R s m args below meth c H locs cells slots mc ms (F0 m pc ls st0) rest (va_Qv post (xB D (va_A wc H.size) w) (va_A wc H.size) a) (va_A wc H.size)) (hP : va_P D vwCl ws H) (hD : va_D A ws) (hS : va_S A H0 H locs) (hA : ∀ q, H0.size ≤ q → A q) (isC isR : List Nat) (hC : isC.map (fun i => ws[i]?) = wc.map some) (hR : isR.map (fun i => ws[i]?) = wr.map some) (hn : va_nd isR = true) (hdis : ∀ i ∈ isR, i ∉ isC)
    (kk : ∀ (u : S) (H1 : Heap) (locs1 : List Loc), post u → va_P D vwCl (wr ++ w u) H1 → va_D A (wr ++ w u) → va_S A H0 H1 locs1 → W p l e R s m args below meth c H1 locs1 (cells + mc) (slots + ms) Q (F0 m (pc + 3) ls rest)) : W p l e R s m args below meth c H locs cells slots Q (F0 m pc ls st0) := by
  have hFc := va_free (wc := wc) hD hS hA isC hC
  refine va_callv hr hS (fun q _ h => hFc q h) hFc (fun u t H1 locs1 ht hvm hw hB hz hk hS1 => ?_)
  obtain ⟨hP1, hD1⟩ := hB
  rw [ht] at hP1
  obtain ⟨hP2, hD2⟩ := va_join (wr := wr) (w1 := w u) hP hD isC isR hC hR hn hdis hk hFc hP1 hD1
  exact kk u H1 locs1 hw hP2 hD2 hS1
theorem x_calli {S : Type} {post : Int32 → S → Prop} {w : S → va_W} (wc wr : va_W) (hr : va_Run p l e R s m args below meth c H locs cells slots mc ms (F0 m pc ls st0) rest (va_Qi post (xB D (va_A wc H.size) w) (va_A wc H.size) a) (va_A wc H.size)) (hP : va_P D vwCl ws H) (hD : va_D A ws) (hS : va_S A H0 H locs) (hA : ∀ q, H0.size ≤ q → A q) (isC isR : List Nat) (hC : isC.map (fun i => ws[i]?) = wc.map some) (hR : isR.map (fun i => ws[i]?) = wr.map some) (hn : va_nd isR = true) (hdis : ∀ i ∈ isR, i ∉ isC)
    (kk : ∀ (r : Int32) (u : S) (H1 : Heap) (locs1 : List Loc), post r u → va_P D vwCl (wr ++ w u) H1 → va_D A (wr ++ w u) → va_S A H0 H1 locs1 → W p l e R s m args below meth c H1 locs1 (cells + mc) (slots + ms) Q (F0 m (pc + 3) ls (.int r :: rest))) : W p l e R s m args below meth c H locs cells slots Q (F0 m pc ls st0) := by
  have hFc := va_free (wc := wc) hD hS hA isC hC
  refine va_calli hr hS (fun q _ h => hFc q h) hFc (fun r u t H1 locs1 ht hvm hw hB hz hk hS1 => ?_)
  obtain ⟨hP1, hD1⟩ := hB
  rw [ht] at hP1
  obtain ⟨hP2, hD2⟩ := va_join (wr := wr) (w1 := w u) hP hD isC isR hC hR hn hdis hk hFc hP1 hD1
  exact kk r u H1 locs1 hw hP2 hD2 hS1
theorem x_calll {S : Type} {post : Int64 → S → Prop} {w : S → va_W} (wc wr : va_W) (hr : va_Run p l e R s m args below meth c H locs cells slots mc ms (F0 m pc ls st0) rest (va_Ql post (xB D (va_A wc H.size) w) (va_A wc H.size) a) (va_A wc H.size)) (hP : va_P D vwCl ws H) (hD : va_D A ws) (hS : va_S A H0 H locs) (hA : ∀ q, H0.size ≤ q → A q) (isC isR : List Nat) (hC : isC.map (fun i => ws[i]?) = wc.map some) (hR : isR.map (fun i => ws[i]?) = wr.map some) (hn : va_nd isR = true) (hdis : ∀ i ∈ isR, i ∉ isC)
    (kk : ∀ (r : Int64) (u : S) (H1 : Heap) (locs1 : List Loc), post r u → va_P D vwCl (wr ++ w u) H1 → va_D A (wr ++ w u) → va_S A H0 H1 locs1 → W p l e R s m args below meth c H1 locs1 (cells + mc) (slots + ms) Q (F0 m (pc + 3) ls (.long r :: rest))) : W p l e R s m args below meth c H locs cells slots Q (F0 m pc ls st0) := by
  have hFc := va_free (wc := wc) hD hS hA isC hC
  refine va_calll hr hS (fun q _ h => hFc q h) hFc (fun r u t H1 locs1 ht hvm hw hB hz hk hS1 => ?_)
  obtain ⟨hP1, hD1⟩ := hB
  rw [ht] at hP1
  obtain ⟨hP2, hD2⟩ := va_join (wr := wr) (w1 := w u) hP hD isC isR hC hR hn hdis hk hFc hP1 hD1
  exact kk r u H1 locs1 hw hP2 hD2 hS1
theorem x_callq {S : Type} {post : Option Nat → S → Prop} {w : S → va_W} (wc wr : va_W) (hr : va_Run p l e R s m args below meth c H locs cells slots mc ms (F0 m pc ls st0) rest (va_Qq post (xB D (va_A wc H.size) w) (va_A wc H.size) a) (va_A wc H.size)) (hP : va_P D vwCl ws H) (hD : va_D A ws) (hS : va_S A H0 H locs) (hA : ∀ q, H0.size ≤ q → A q) (isC isR : List Nat) (hC : isC.map (fun i => ws[i]?) = wc.map some) (hR : isR.map (fun i => ws[i]?) = wr.map some) (hn : va_nd isR = true) (hdis : ∀ i ∈ isR, i ∉ isC)
    (kk : ∀ (r : Option Nat) (u : S) (H1 : Heap) (locs1 : List Loc), post r u → va_P D vwCl (wr ++ w u) H1 → va_D A (wr ++ w u) → va_S A H0 H1 locs1 → W p l e R s m args below meth c H1 locs1 (cells + mc) (slots + ms) Q (F0 m (pc + 3) ls (va_rf r :: rest))) : W p l e R s m args below meth c H locs cells slots Q (F0 m pc ls st0) := by
  have hFc := va_free (wc := wc) hD hS hA isC hC
  refine va_callq hr hS (fun q _ h => hFc q h) hFc (fun r u t H1 locs1 ht hvm hw hB hz hk hS1 => ?_)
  obtain ⟨hP1, hD1⟩ := hB
  rw [ht] at hP1
  obtain ⟨hP2, hD2⟩ := va_join (wr := wr) (w1 := w u) hP hD isC isR hC hR hn hdis hk hFc hP1 hD1
  exact kk r u H1 locs1 hw hP2 hD2 hS1
/-- a new array, its class by the world's table -/
theorem x_newa (hexec : p.tables.exec = Jvm.exec) (hb : c.code = cc) {atype : ArrayType} (harr : (Cond.arrayClass (newarray.typeOf atype)).before args s = true) {tys : List (ClassId × FieldType)} (hK : va_K D vwCl tys s) (hP : va_P D vwCl ws H) (hD : va_D A ws) (hS : va_S A H0 H locs) (hA : ∀ q, H0.size ≤ q → A q) (t0 : Nat) {cA : ClassId} (ht : tys[t0]? = some (cA, newarray.typeOf atype))
    {n : Int32} {N' : Nat} {a0 : vp_A} (ha : ∀ cA : ClassId, vp_cell cA a0 = arrV cA N' (fun _ => defaultValue (newarray.typeOf atype))) (hn : ¬ n < 0) (hN : n.toNatClampNeg = N') (hbytes : N' * componentBytes (newarray.typeOf atype) ≤ 536870912) (hcells : cells + 1 ≤ R.cells) (hslots : slots + N' ≤ R.slots) (hdg : decode cc pc = .ok (.newarray atype, 2))
    (kk : ∀ (q : Nat) (H1 : Heap), va_P D vwCl (ws ++ [(q, .inl (cA, a0))]) H1 → va_D A (ws ++ [(q, .inl (cA, a0))]) → va_S A H0 H1 locs →
      W p l e R s m args below meth c H1 locs (cells + 1) (slots + N') Q (F0 m (pc + 2) ls (.ref q :: rest))) : W p l e R s m args below meth c H locs cells slots Q (F0 m pc ls (.int n :: rest)) := by
  refine va_newaK hexec hb harr rfl hdg rfl hn hN hbytes hcells hslots rfl fun H1 cA' e1 z1 o1 hAr hNm => ?_
  have h3 : s.vm.findClass ("[" ++ (newarray.typeOf atype).toString) = some cA := by
    have h2 := (hK.2 t0 _ ht).2
    cases atype <;> exact h2
  have hc : cA' = cA := by rw [hNm] at h3; exact Option.some.inj h3
  subst hc
  have hk : ∀ (k : Nat) (x : Nat × va_E), ws[k]? = some x → H1[x.1]? = H[x.1]? := fun k x hx => o1 x.1 ((hP k x hx).lt)
  refine kk H.size H1 ((hP.kept hk).app (fun k x hx => ?_)) (hD.push hP rfl (hA _ hS.1)) ⟨Nat.le_trans hS.1 (by omega), fun x h1 h2 => (o1 x (Nat.lt_of_lt_of_le h1 hS.1)).trans (hS.2.1 x h1 h2), hS.2.2⟩
  have hz : k < 1 := (List.getElem?_eq_some_iff.mp hx).1
  rw [show k = 0 by omega] at hx
  cases hx
  show H1[H.size]? = some (vp_cell _ _)
  rw [ha]
  exact e1
theorem x_newq (hexec : p.tables.exec = Jvm.exec) (hb : c.code = cc) {own C : String} {index : Nat} (hown : s.vm.findClass own = some m.cls) (hclink : (Cond.classLink own index C).before args s = true) (hover : va_AO C s) {tys : List (ClassId × FieldType)} (hK : va_K D vwCl tys s) (hP : va_P D vwCl ws H) (hD : va_D A ws) (hS : va_S A H0 H locs) (hA : ∀ q, H0.size ≤ q → A q) (t0 : Nat) {cA : ClassId} (ht : tys[t0]? = some (cA, .object C))
    {n : Int32} {N' : Nat} (hn : ¬ n < 0) (hN : n.toNatClampNeg = N') (hbytes : N' * 4 ≤ 536870912) (hcells : cells + 1 ≤ R.cells) (hslots : slots + N' ≤ R.slots) (hdg : decode cc pc = .ok (.anewarray index, 3))
    (kk : ∀ (q : Nat) (H1 : Heap), va_P D vwCl (ws ++ [(q, .inl (cA, N', .inr (.inr (.inr (.inr (fun _ => none))))))]) H1 → va_D A (ws ++ [(q, .inl (cA, N', .inr (.inr (.inr (.inr (fun _ => none))))))]) → va_S A H0 H1 locs →
      W p l e R s m args below meth c H1 locs (cells + 1) (slots + N') Q (F0 m (pc + 3) ls (.ref q :: rest))) : W p l e R s m args below meth c H locs cells slots Q (F0 m pc ls (.int n :: rest)) := by
  refine va_newq hexec hb hown hclink hover hK hP hD hS hA hn hN hbytes hcells hslots hdg (fun q cA' H1 hK' hP1 hD1 hS1 => ?_)
  have h4 : va_RA s cA' (.object C) := (hK'.2 tys.length (cA', .object C) (by simp)).2
  obtain ⟨_, _, _, _, _, h5⟩ := h4
  obtain ⟨_, _, _, _, _, h6⟩ := (hK.2 t0 _ ht).2
  have hc : cA' = cA := by rw [h5] at h6; exact Option.some.inj h6
  subst hc
  exact kk q H1 hP1 hD1 hS1
end XC
/-- rows of references as a list -/
def xa (l : List (Option Nat)) : Nat → Option Nat := fun k => l.getD k none
theorem xa_up {l : List (Option Nat)} {i : Nat} {v : Option Nat} (h : i < l.length) : va_up (xa l) i v = xa (l.set i v) := by
  funext j
  unfold va_up xa
  by_cases hj : j = i
  · subst hj; simp [h]
  · simp [hj, List.getElem?_set, Ne.symm hj]
theorem xa_none (n : Nat) : (fun _ => none) = xa (List.replicate n none) := by
  funext j
  unfold xa
  by_cases h : j < n <;> simp [h]
