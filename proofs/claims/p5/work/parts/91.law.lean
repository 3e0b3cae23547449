/-! THE CLAIM OUT OF ONE WALK OF THE LAW'S BODY. Your part is whole_start (and what it stands on); all else here is the same for every law, but numbers. -/
def R_law : String := "CableNamesLaw"
def lw_P (b : Addr) (xs : List Int32) (args : Array Value) (s : State) : Prop := args = #[.ref b] ∧ s.IntsAt b xs ∧ xs.length ≤ 3072 ∧ (Jvm.Cond.and given_1 narrow_1).before args s = true
def lw_Q (_ : Array Value) (s : State) (o : Outcome) (t : State) : Prop := o = .returned (some (.int 1)) ∧ Framed s o t [] 601024 7293034
def lw_Z (below : List Frame) (a : Array Value) (s : State) : State → Prop := fun t => ∃ o, t.status = .running ∧ Ended t below o ∧ lw_Q a s o t
/-- the law's own end, with 1 on the stack, nothing written that was there before, its room as the claim has it -/
theorem lw_ret {p : Program} {l : Launch} {e : Env} {s : State} {m : MethodId} {below : List Frame} {meth : Method} {c : Code} {b : Nat} (hx : p.tables.exec = Jvm.exec) (hb : c.code = code) (hr : meth.sig.returnType = ret) (hlocks : meth.locks = false) {pc : Nat} {H : Heap} {ls : Array Slot} (hdg : decode code pc = .ok (.ireturn, 1)) : W p l e room_1 s m #[Value.ref b] below meth c H [] 601024 7293034 (lw_Z below #[Value.ref b] s) (F0 m pc ls [.int 1]) := by
  intro T hT X
  obtain ⟨fs, hret, hrun, hended, hW, hframe⟩ := X.leave (v := some (.int 1)) (hlocks := hlocks) (fun h => by rw [hr] at h; cases h)
  have hmeth' : T.vm.method? m = some meth := X.method'
  refine ⟨T.setFrames fs, ?_, .returned (some (.int 1)), hrun, hended, rfl, ⟨_, rfl⟩, hW, hframe⟩
  jvm_step X.here [X.here.top, hx, hb, hdg, hmeth', hr, ret, narrow_b1]
  (try refine ⟨rfl, ?_⟩); (try refine ⟨rfl, ?_⟩)
  first | (intro acts; rw [hret _ acts rfl rfl rfl]) | rw [hret _ _ rfl rfl rfl]
  exact Steps.refl _
/-- what holds at the law's entry: the machine, the code, the tables' words (any of lw_tbl by 'hts w (by decide +kernel)'), the script of L ints xs at the cell b, what the Statement gives of the start (any of its parts by flat_of_before) -/
def lw_At (p : Program) (s : State) (m : MethodId) (meth : Method) (c : Code) (b L : Nat) (xs : Nat → Int32) : Prop :=
  p.tables.exec = Jvm.exec ∧ c.code = code ∧ meth.sig.returnType = ret ∧ c.maxLocals = 7 ∧ s.vm.findClass R_law = some m.cls ∧ (∀ w ∈ lw_tbl, w.before #[Value.ref b] s = true) ∧ va_X b L xs s s.heap ∧ b < s.heap.size ∧ meth.locks = false ∧ (Jvm.Cond.and given_1 narrow_1).before #[Value.ref b] s = true
/-- the law stands here, the heap is that of σ -/
def WdL (D : va_G) (cy : Nat → ClassId) (A : Nat → Prop) (s : State) (d : Nat) (lv : LV) (σ : ps) (ls : Array Slot) (H : Heap) (locs : List Loc) (cells slots : Nat) : Prop := lv_has ls 7 lv ∧ va_P D vwCl (pW cy σ) H ∧ va_D A (pW cy σ) ∧ va_S A s.heap H locs ∧ H.size = σ.1 ∧ cells + s.heap.size ≤ σ.1 + d ∧ slots ≤ σ.2.1 + 6 * d
section
variable {p : Program} {l : Launch} {e : Env} {s : State} {m : MethodId} {below : List Frame} {meth : Method} {c : Code} {b L : Nat} {xs : Nat → Int32} {D : va_G} {cy : Nat → ClassId} {A : Nat → Prop} {Q : State → Prop}
theorem lwts (C0 : lw_At p s m meth c b L xs) : ∀ w ∈ xG, w.before #[Value.ref b] s = true := fun w h => C0.2.2.2.2.2.1 w (List.mem_filter.mp h).1
theorem lwfix (C0 : lw_At p s m meth c b L xs) : CallFix p m c code 7 s #[Value.ref b] xG RL := ⟨C0.1, C0.2.1, C0.2.2.2.1, C0.2.2.2.2.1, lwts C0⟩
theorem lwc {k n pc idx : Nat} {d : Nat} {lv : LV} {σ σ1 : ps} {r : Option Value} {a : Nat} {As rest : List Value} {ls : Array Slot} {H : Heap} {locs : List Loc} {cells slots : Nat} (C0 : lw_At p s m meth c b L xs) (hK : xK D cy s) (hA : ∀ q, s.heap.size ≤ q → A q) (hk : k < 203) (h1 : Cond.methodLink RL idx (yy k) ∈ xG) (h2 : Cond.instanceMethod (yy k) ∈ xG) (h3 : Cond.selects (RS (ow k)) (yy k) (yy k) ∈ xG) (hd : decode code pc = .ok (.invokevirtual idx, 3)) (hRR : fr k + 1 ≤ room_1.frames ∧ 8 + (mL k + 11) + lo k ≤ room_1.locals) (run : prun n k 0 (lv_args 0 (.ref a :: As)) [] σ = some (r, σ1)) (ha : a ∈ sL σ) (hka : sK σ a = ow k) (hlen : As.length = npar k) (hfit : (lg_sl (.ref a :: As)).length ≤ mL k) (hcat : catS rest ≤ 8) (hRc : σ1.1 + d ≤ s.heap.size + 601024) (hRs : σ1.2.1 + 6 * d ≤ 7293034) (wd : WdL D cy A s d lv σ ls H locs cells slots)
    (kk : ∀ (H1 : Heap) (locs1 : List Loc) (cells1 slots1 : Nat), WdL D cy A s d lv σ1 ls H1 locs1 cells1 slots1 → W p l e room_1 s m #[Value.ref b] below meth c H1 locs1 cells1 slots1 Q (F0 m (pc + 3) ls (r.toList ++ rest))) : W p l e room_1 s m #[Value.ref b] below meth c H locs cells slots Q (F0 m pc ls (As.reverse ++ .ref a :: rest)) := by
  obtain ⟨hl, hP, hD, hS, hz, hc1, hc2⟩ := wd
  obtain ⟨⟨hpl, hcls⟩, hcode, hini, hmh, hvh, hpar⟩ := mOk _ hk
  have hts := lwts C0
  have hm := prun_mono _ _ _ _ _ _ _ _ run
  have hM : pMet l D cy k (.ref a :: As) σ r σ1 := simMet hk hfit run
  have how : ow k < 14 := owLt _ hk
  obtain ⟨q0, h0⟩ := pW_at cy ha
  rw [pF_obj hka how] at h0
  have hpre := xpreV (As := As) hK hP hD q0 _ h0 (kcl _ how) rfl
  rw [hz] at hpre
  have hini' : Cond.initialized (RS (ow k)) ∈ xG := hcls ▸ hini
  have e1 : room_1.cells = 601024 := rfl
  have e2 : room_1.slots = 7293034 := rfl
  have hcs : cells + (σ1.1 - σ.1) ≤ room_1.cells ∧ slots + (σ1.2.1 - σ.2.1) ≤ room_1.slots := ⟨by omega, by omega⟩
  unfold pMet at hM
  refine q_call (va_runV (lwfix C0) hM (cwV (npar k) hts (xV h1 h2 h3 hini' hcode) rfl rfl rfl ⟨hcls, hmh, hvh, hpar⟩ hRR) hpre rfl hlen hl.1 rfl (lv_room (rest := _) hcat) hd hcs) hz hD hS hA (fun H1 locs1 hP1 hD1 hS1 hz1 => ?_)
  exact kk H1 locs1 _ _ ⟨hl, hP1, hD1, hS1, hz1, by omega, by omega⟩
/-- a constructor's call -/
theorem lwi {k n pc idx : Nat} {d : Nat} {lv : LV} {σ σ1 : ps} {r : Option Value} {a : Nat} {rest : List Value} {ls : Array Slot} {H : Heap} {locs : List Loc} {cells slots : Nat} (C0 : lw_At p s m meth c b L xs) (hK : xK D cy s) (hA : ∀ q, s.heap.size ≤ q → A q) (hk : k < 203) (hrt : rt k = none) (hnp : npar k = 0) (h1 : Cond.methodLink RL idx (yy k) ∈ xG) (h2 : Cond.instanceMethod (yy k) ∈ xG) (h3 : (yy k).name = "<init>") (hd : decode code pc = .ok (.invokespecial idx, 3)) (hRR : fr k + 1 ≤ room_1.frames ∧ 8 + (mL k + 11) + lo k ≤ room_1.locals) (run : prun n k 0 (lv_args 0 [.ref a]) [] σ = some (r, σ1)) (hfit : (lg_sl [.ref a]).length ≤ mL k) (hcat : catS rest ≤ 8) (hRc : σ1.1 + d ≤ s.heap.size + 601024) (hRs : σ1.2.1 + 6 * d ≤ 7293034) (wd : WdL D cy A s d lv σ ls H locs cells slots)
    (kk : ∀ (H1 : Heap) (locs1 : List Loc) (cells1 slots1 : Nat), WdL D cy A s d lv σ1 ls H1 locs1 cells1 slots1 → W p l e room_1 s m #[Value.ref b] below meth c H1 locs1 cells1 slots1 Q (F0 m (pc + 3) ls (r.toList ++ rest))) : W p l e room_1 s m #[Value.ref b] below meth c H locs cells slots Q (F0 m pc ls (.ref a :: rest)) := by
  obtain ⟨hl, hP, hD, hS, hz, hc1, hc2⟩ := wd
  obtain ⟨⟨hpl, hcls⟩, hcode, hini, hmh, hvh, hpar⟩ := mOk _ hk
  have hts := lwts C0
  have hm := prun_mono _ _ _ _ _ _ _ _ run
  have hM : pMet l D cy k [.ref a] σ r σ1 := simMet hk hfit run
  have hpre := xpreS (av := [.ref a]) hK hP hD
  rw [hz] at hpre
  have e1 : room_1.cells = 601024 := rfl
  have e2 : room_1.slots = 7293034 := rfl
  have hcs : cells + (σ1.1 - σ.1) ≤ room_1.cells ∧ slots + (σ1.2.1 - σ.2.1) ≤ room_1.slots := ⟨by omega, by omega⟩
  unfold pMet at hM
  rw [hrt] at hM hcode
  refine q_call (va_runI (As := []) (lwfix C0) hM ⟨callB_of (npar k) hts (xw_good hcode) rfl rfl rfl (hts _ hini) (hts _ h1) ⟨hmh, hvh, hpar⟩ hRR, h3, hts _ h2⟩ hpre rfl (by rw [hnp]; rfl) hl.1 rfl (lv_room (rest := _) hcat) hd hcs) hz hD hS hA (fun H1 locs1 hP1 hD1 hS1 hz1 => ?_)
  exact kk H1 locs1 _ _ ⟨hl, hP1, hD1, hS1, hz1, by omega, by omega⟩
theorem lwn {k pc idx : Nat} {d : Nat} {lv : LV} {σ : ps} {rest : List Value} {ls : Array Slot} {H : Heap} {locs : List Loc} {cells slots : Nat} (C0 : lw_At p s m meth c b L xs) (hK : xK D cy s) (hA : ∀ q, s.heap.size ≤ q → A q) (hk : k < 14) (h4 : Cond.classLink RL idx (RS k) ∈ xG) (h5 : Cond.instantiable (RS k) (nF k) ∈ xG) (h6 : Cond.initialized (RS k) ∈ xG) (hd : decode code pc = .ok (.new idx, 3)) (hRc : σ.1 + 1 + d ≤ s.heap.size + 601024) (hRs : σ.2.1 + nF k + 6 * d ≤ 7293034) (wd : WdL D cy A s d lv σ ls H locs cells slots)
    (kk : ∀ (H1 : Heap) (locs1 : List Loc) (cells1 slots1 : Nat), WdL D cy A s d lv (sNew σ k (nF k) (dfv k)) ls H1 locs1 cells1 slots1 → W p l e room_1 s m #[Value.ref b] below meth c H1 locs1 cells1 slots1 Q (F0 m (pc + 3) ls (.ref σ.1 :: rest))) : W p l e room_1 s m #[Value.ref b] below meth c H locs cells slots Q (F0 m pc ls rest) := by
  obtain ⟨hl, hP, hD, hS, hz, hc1, hc2⟩ := wd
  have hts := lwts C0
  have e1 : room_1.cells = 601024 := rfl
  have e2' : room_1.slots = 7293034 := rfl
  have hKn := hK.1.1 k _ (kcl _ hk)
  refine W.newcK C0.1 C0.2.1 C0.2.2.2.2.1 (hts _ h4) (hts _ h5) (hts _ h6) rfl hd (by omega) (by omega) hKn.2.1 hz fun H1 kC hkC e1 z1 o1 => ?_
  have hk' : ∀ (k : Nat) (x : Nat × va_E), (pW cy σ)[k]? = some x → H1[x.1]? = H[x.1]? := fun k x hx => o1 x.1 (by rw [← hz]; exact (hP k x hx).lt)
  have hfr : σ.1 ∉ sL σ := fun hm => by
    obtain ⟨k, hk⟩ := pW_at cy hm
    have := (hP k _ hk).lt
    simp only at this
    omega
  have e2 : pW cy σ ++ [(σ.1, pF cy (sNew σ k (nF k) (dfv k)) σ.1)] = pW cy (sNew σ k (nF k) (dfv k)) := by
    unfold pW
    rw [va_pl_push hfr]
    exact va_pl_congr (fun b => pF_new b)
  have hP1 : va_P D vwCl (pW cy (sNew σ k (nF k) (dfv k))) H1 := by
    rw [← e2]
    refine (hP.kept hk').app (fun k' x hx => ?_)
    have hz : k' < 1 := (List.getElem?_eq_some_iff.mp hx).1
    rw [show k' = 0 by omega] at hx
    cases hx
    rw [pF_obj (sNew_selfK _ _ _ _) hk, sNew_selfV]
    refine ⟨_, kcl _ hk, (u_born (tyS k) hts (kG _ hk) hKn hkC e1 (kty _ hk)).to (fun j hj => ?_)⟩
    have hj : j < nF k := hj
    unfold vp_V dfv
    rw [List.getD_eq_getElem?_getD, List.getElem?_map, List.getElem?_range hj]
    simp [hj]
  have hD1 : va_D A (pW cy (sNew σ k (nF k) (dfv k))) := by rw [← e2]; exact hD.push hP hz.symm (hA _ (by have := hS.1; omega))
  exact kk _ _ _ _ ⟨hl, hP1, hD1, ⟨by have := hS.1; omega, fun x a b => (o1 x (by have := hS.1; omega)).trans (hS.2.1 x a b), hS.2.2⟩, z1, by simp only [sNew]; omega, by simp only [sNew]; omega⟩
/-- the law's own row of one long -/
theorem lwa {pc : Nat} {n : Int32} {d : Nat} {lv : LV} {σ : ps} {rest : List Value} {ls : Array Slot} {H : Heap} {locs : List Loc} {cells slots : Nat} (C0 : lw_At p s m meth c b L xs) (hK : xK D cy s) (hA : ∀ q, s.heap.size ≤ q → A q) (hn : n = 1) (h5 : Cond.arrayClass (newarray.typeOf (arT 2)) ∈ xG) (hd : decode code pc = .ok (.newarray .long, 2)) (hRc : σ.1 + 1 + d ≤ s.heap.size + 601024) (hRs : σ.2.1 + 1 + 6 * d ≤ 7293034) (wd : WdL D cy A s d lv σ ls H locs cells slots)
    (kk : ∀ (H1 : Heap) (locs1 : List Loc) (cells1 slots1 : Nat), WdL D cy A s d lv (sNew σ 38 1 (fun _ => .long 0)) ls H1 locs1 cells1 slots1 → W p l e room_1 s m #[Value.ref b] below meth c H1 locs1 cells1 slots1 Q (F0 m (pc + 2) ls (.ref σ.1 :: rest))) : W p l e room_1 s m #[Value.ref b] below meth c H locs cells slots Q (F0 m pc ls (.int n :: rest)) := by
  obtain ⟨hl, hP, hD, hS, hz, hc1, hc2⟩ := wd
  have hts := lwts C0
  have e1 : room_1.cells = 601024 := rfl
  have e2' : room_1.slots = 7293034 := rfl
  have hN : n.toNatClampNeg = (rk 38).2 := by rw [hn]; decide
  have hn0 : ¬ n < 0 := by rw [hn]; decide
  have hfr : σ.1 ∉ sL σ := fun hm => by
    obtain ⟨k, hk⟩ := pW_at cy hm
    have := (hP k _ hk).lt
    simp only at this
    omega
  have e2 : pW cy σ ++ [(σ.1, pF cy (sNew σ 38 (rk 38).2 (fun _ => rowV (rk 38).1)) σ.1)] = pW cy (sNew σ 38 (rk 38).2 (fun _ => rowV (rk 38).1)) := by
    unfold pW
    rw [va_pl_push hfr]
    exact va_pl_congr (fun b => pF_new b)
  have h4 : (rk 38).1 < 4 := by decide
  have hd' : decode code pc = .ok (.newarray (arT (rk 38).1), 2) := hd
  have r1 : (rk 38).2 = 1 := rfl
  refine va_newaK C0.1 C0.2.1 (hts _ h5) rfl hd' rfl hn0 hN (by decide) (by omega) (by omega) hz fun H1 cA e1 z1 o1 hAr hNm => ?_
  have hcy : cA = cy (rk 38).1 := newa_cls hK.1 h4 hNm
  subst hcy
  have hk : ∀ (k : Nat) (x : Nat × va_E), (pW cy σ)[k]? = some x → H1[x.1]? = H[x.1]? := fun k x hx => o1 x.1 (by rw [← hz]; exact (hP k x hx).lt)
  have hP1 : va_P D vwCl (pW cy (sNew σ 38 (rk 38).2 (fun _ => rowV (rk 38).1))) H1 := by
    rw [← e2]
    refine (hP.kept hk).app (fun k x hx => ?_)
    have hz : k < 1 := (List.getElem?_eq_some_iff.mp hx).1
    rw [show k = 0 by omega] at hx
    cases hx
    rw [pF_row (by rw [sNew_selfK]; decide), sNew_selfK, sNew_selfV]
    show H1[σ.1]? = some (vp_cell _ _)
    rw [e1]
    exact congrArg some (newa_cell h4)
  have hD1 : va_D A (pW cy (sNew σ 38 (rk 38).2 (fun _ => rowV (rk 38).1))) := by rw [← e2]; exact hD.push hP hz.symm (hA _ (by have := hS.1; omega))
  exact kk _ _ _ _ ⟨hl, hP1, hD1, ⟨by have := hS.1; omega, fun x a b => (o1 x (by have := hS.1; omega)).trans (hS.2.1 x a b), hS.2.2⟩, z1, by simp only [sNew]; omega, by simp only [sNew]; omega⟩
theorem vpin {i : Int32} {n : Nat} (h1 : 0 ≤ i.toInt) (h2 : i.toInt < n) : vp_in i n := pin_ok (n_pin h1 h2)
theorem WdL.up {d d' : Nat} {lv : LV} {σ : ps} {ls : Array Slot} {H : Heap} {locs : List Loc} {cells slots : Nat} (wd : WdL D cy A s d lv σ ls H locs cells slots) (h : d ≤ d') : WdL D cy A s d' lv σ ls H locs cells slots := by
  obtain ⟨h1, h2, h3, h4, h5, h6, h7⟩ := wd
  exact ⟨h1, h2, h3, h4, h5, by omega, by omega⟩
theorem WdL.ls {d : Nat} {lv lv' : LV} {σ : ps} {ls ls' : Array Slot} {H : Heap} {locs : List Loc} {cells slots : Nat} (wd : WdL D cy A s d lv σ ls H locs cells slots) (h : lv_has ls' 7 lv') : WdL D cy A s d lv' σ ls' H locs cells slots := ⟨h, wd.2⟩
end
