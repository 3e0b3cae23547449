theorem gw1024 : (Cond.classLink RX12 457 "java/lang/IndexOutOfBoundsException") ∈ xG := xin5 64 (by decide +kernel) (by decide +kernel)
theorem gw19 : (Cond.initialized "java/lang/IndexOutOfBoundsException") ∈ xG := xin1 19 (by decide +kernel) (by decide +kernel)
theorem gw1090 : (Cond.classLink RX12 464 "java/util/NoSuchElementException") ∈ xG := xin5 130 (by decide +kernel) (by decide +kernel)
theorem gw20 : (Cond.initialized "java/util/NoSuchElementException") ∈ xG := xin1 20 (by decide +kernel) (by decide +kernel)
theorem gw1020 : (Cond.methodLink RL 7 yX12_look) ∈ xG := xin5 60 (by decide +kernel) (by decide +kernel)
theorem gw1018 : (Cond.classLink RL 13 "java/lang/IndexOutOfBoundsException") ∈ xG := xin5 58 (by decide +kernel) (by decide +kernel)
theorem gw1019 : (Cond.classLink RL 15 "java/util/NoSuchElementException") ∈ xG := xin5 59 (by decide +kernel) (by decide +kernel)
abbrev xIO : String := "java/lang/IndexOutOfBoundsException"
abbrev xNS : String := "java/util/NoSuchElementException"
abbrev xRT : List String := ["java/lang/RuntimeException", "java/lang/Exception"]
abbrev xb13 : ByteArray := prog_22_method_4_code
/-- what a throw rests on, beside the good words -/
def xKt (A : Nat → Prop) (a1 a2 : Nat) (U : State) : Prop := (va_Nw (.declares (Bundle.initS "java/lang/RuntimeException")) U ∧ va_Nw (.declares (Bundle.initS "java/lang/Exception")) U ∧ va_Nw (.declares (Bundle.initS Bundle.tN)) U) ∧ (va_Nw (.castable xIO xIO) U ∧ va_Nw (.castable xNS xNS) U ∧ va_Nc xNS xIO U) ∧ (vk_R RX12 459 "no such host" a1 U ∧ vk_R RX12 466 "nothing such to look at" a2 U) ∧ vx_Zq Bundle.tN "UNASSIGNED_STACK" Bundle.steD A U U.heap ∧ vx_Zq Bundle.tN "SUPPRESSED_SENTINEL" Bundle.listD A U U.heap
theorem xKt.same {A : Nat → Prop} {a1 a2 : Nat} {U V : State} (ev : U.vm = V.vm) (eh : U.heap = V.heap) (h : xKt A a1 a2 U) : xKt A a1 a2 V := by
  obtain ⟨⟨h1, h2, h3⟩, ⟨h4, h5, h6⟩, ⟨h7, h8⟩, h9, h10⟩ := h
  have ha : U.vm.Alike V.vm := by rw [ev]; exact Vm.Alike.refl V.vm
  rw [eh] at h9 h10
  exact ⟨⟨va_Nw.same rfl ev h1, va_Nw.same rfl ev h2, va_Nw.same rfl ev h3⟩, ⟨va_Nw.same rfl ev h4, va_Nw.same rfl ev h5, h6.moved ha⟩, ⟨h7.same ev.symm, h8.same ev.symm⟩, h9.moved ha, h10.moved ha⟩
theorem xKt.at {A : Nat → Prop} {a1 a2 : Nat} {s U : State} {H : Heap} {locs : List Loc} (hW : s.WarmedH U.vm) (hS : va_S A s.heap H locs) (hU : U.heap = H) (h : xKt A a1 a2 s) : xKt (fun _ => False) a1 a2 U := by
  obtain ⟨⟨h1, h2, h3⟩, ⟨h4, h5, h6⟩, ⟨h7, h8⟩, h9, h10⟩ := h
  subst hU
  exact ⟨⟨va_Nw.warmD hW h1, va_Nw.warmD hW h2, va_Nw.warmD hW h3⟩, ⟨va_Nw.warmC hW h4, va_Nw.warmC hW h5, h6.moved hW.alike⟩, ⟨h7.warm hW, h8.warm hW⟩, ((h9.kept (fun a ha hn => hS.2.1 a ha hn)).narrow (fun _ f => f.elim)).moved hW.alike, ((h10.kept (fun a ha hn => hS.2.1 a ha hn)).narrow (fun _ f => f.elim)).moved hW.alike⟩
theorem xblindT {D : va_G} {cy : Nat → ClassId} {sz a1 a2 : Nat} {ws : va_W} {A : Nat → Prop} {av : List Value} : FrameBlind (va_Pc av (fun U => xPre D cy sz ws U ∧ xKt A a1 a2 U)) := fun a U g mk q => by
  obtain ⟨q0, ⟨q1, qP, qK, qD⟩, qT⟩ := q
  exact ⟨q0, ⟨q1, qP, qK.same rfl, qD⟩, qT.same rfl rfl⟩
theorem xat0 : ∀ w ∈ (vx_atS RX12 461 xIO xRT).filter goodWord, w ∈ xG := fun w h => List.mem_filter.mpr ⟨(show ∀ w ∈ (vx_atS RX12 461 xIO xRT).filter goodWord, w ∈ lw_tbl by decide +kernel) w h, (List.mem_filter.mp h).2⟩
theorem xat1 : ∀ w ∈ (xt_at RX12 468 xNS 13 xb13 xRT).filter goodWord, w ∈ xG := fun w h => List.mem_filter.mpr ⟨(show ∀ w ∈ (xt_at RX12 468 xNS 13 xb13 xRT).filter goodWord, w ∈ lw_tbl by decide +kernel) w h, (List.mem_filter.mp h).2⟩
theorem xhat0 {A : Nat → Prop} {a1 a2 : Nat} {args : Array Value} {s : State} (hts : ∀ w ∈ xG, w.before args s = true) (h : xKt A a1 a2 s) : ∀ w ∈ vx_atS RX12 461 xIO xRT, w.before args s = true :=
  vx_hat (B := [.declares (Bundle.initS "java/lang/RuntimeException"), .declares (Bundle.initS "java/lang/Exception"), .declares (Bundle.initS Bundle.tN), .castable xIO xIO]) (fun w hw => hts w (xat0 w hw)) (by decide +kernel) (vx_c (va_Nw.use rfl h.1.1) (vx_c (va_Nw.use rfl h.1.2.1) (vx_c (va_Nw.use rfl h.1.2.2) (vx_c (va_Nw.use rfl h.2.1.1) vx_n))))
theorem xhat1 {A : Nat → Prop} {a1 a2 : Nat} {args : Array Value} {s : State} (hts : ∀ w ∈ xG, w.before args s = true) (h : xKt A a1 a2 s) : ∀ w ∈ xt_at RX12 468 xNS 13 xb13 xRT, w.before args s = true :=
  vx_hat (B := [.declares (Bundle.initS "java/lang/RuntimeException"), .declares (Bundle.initS "java/lang/Exception"), .declares (Bundle.initS Bundle.tN), .castable xNS xNS]) (fun w hw => hts w (xat1 w hw)) (by decide +kernel) (vx_c (va_Nw.use rfl h.1.1) (vx_c (va_Nw.use rfl h.1.2.1) (vx_c (va_Nw.use rfl h.1.2.2) (vx_c (va_Nw.use rfl h.2.1.2.1) vx_n))))
def tC500 : CT := (202,[(2,12,0,0,0),(0,0,7,0,7),(0,0,11,0,11)],[],[([(2,12,0,0,0),(0,0,7,0,7),(0,0,11,0,11)],[(0,(-2147483648),2147483647,0,15)],[])],[],[],0,0,0,0)
theorem tV500 : Valid tC500 := acheck_ok (ct := [tC88]) (VA_cons tV88 VA_nil) (fuel := 40) (nds := []) (by decide +kernel)
theorem pu_3 : pureM 3 := fun n lv σ x h => prun_pure (cs := []) (by decide) (by decide +kernel) (fun c hc => by cases hc) n 0 lv [] σ x h
theorem pu_30 : pureM 30 := fun n lv σ x h => prun_pure (cs := []) (by decide) (by decide +kernel) (fun c hc => by cases hc) n 0 lv [] σ x h
theorem pu_34 : pureM 34 := fun n lv σ x h => prun_pure (cs := [3, 30]) (by decide) (by decide +kernel) (fun c hc => by
    simp only [List.mem_cons, List.not_mem_nil, or_false] at hc
    rcases hc with e | e
    · rw [e]; exact pu_3
    · rw [e]; exact pu_30) n 0 lv [] σ x h
theorem pu_202 : pureM 202 := fun n lv σ x h => prun_pure (cs := [34]) (by decide) (by decide +kernel) (fun c hc => by rw [List.mem_singleton] at hc; rw [hc]; exact pu_34) n 0 lv [] σ x h
/-- look within its bounds, pure -/
theorem lk_run {b0 j x t qo qa bA : Nat} {A : Nat → Nat} {σ : ps} {h w : Int32} (L : LI b0 j x t qo qa bA A σ) (h0 : 0 ≤ h.toInt ∧ h.toInt ≤ 7) (w0 : 0 ≤ w.toInt ∧ w.toInt ≤ 11) : ∃ n v, prun n 202 0 (lv_args 0 [.ref x, .int h, .int w]) [] σ = some (some (.int v), σ) := by
  obtain ⟨Z, T, v⟩ := L
  obtain ⟨n, r, σ', run, post⟩ := tV500 Z σ [.ref x, .int h, .int w] T.1.1 T.1.2.1 (ent_gen ⟨okx T.2.1.1 T.2.1.2, okA.mkI (lo := 0) (hi := 7) h0.1 h0.2, okA.mkI (lo := 0) (hi := 11) w0.1 w0.2, trivial⟩ (fun c hc => by cases hc) (by decide)) (fun h => absurd rfl h)
  have run : prun n 202 0 (lv_args 0 [.ref x, .int h, .int w]) [] σ = some (r, σ') := run
  obtain ⟨Z', _, _, _, _, a⟩ := post
  obtain ⟨v, ev⟩ := alt_i (C := tC500) rfl a
  have es : σ' = σ := pu_202 _ _ _ _ run
  subst ev
  rw [es] at run
  exact ⟨n, v, run⟩
theorem MQ.more {p : Program} {l : Launch} {e : Env} {R : Room} {s : State} {m : MethodId} {args a : Array Value} {below : List Frame} {meth : Method} {c : Code} {H : Heap} {locs : List Loc} {cells slots : Nat} {Q1 Q2 : Array Value → State → Outcome → State → Prop} {mc ms mc' ms' : Nat} {free : Addr → Prop} {g : JFrame} (k : W p l e R s m args below meth c H locs cells slots (MQ below Q1 a s mc ms free) g) (h : ∀ o t, Q1 a s o t → Q2 a s o t) (h1 : mc ≤ mc') (h2 : ms ≤ ms') : W p l e R s m args below meth c H locs cells slots (MQ below Q2 a s mc' ms' free) g := by
  intro T hT X
  obtain ⟨t, a1, o, b1, b2, b3, L, ⟨f1, f2, f3⟩, b5⟩ := k T hT X
  exact ⟨t, a1, o, b1, b2, h o t b3, L, ⟨f1, f2, f3.mono h1 h2⟩, b5⟩
set_option maxHeartbeats 4000000 in
set_option maxRecDepth 100000 in
theorem c_look (l : Launch) (hlt : l.stackTraces = false) (D : va_G) (cy : Nat → ClassId) {x : Nat} {h w : Int32} {a1 a2 : Nat} {σ : ps} (nrm : (0 ≤ h.toInt ∧ h.toInt ≤ 7) → (0 ≤ w.toInt ∧ w.toInt ≤ 11) → ∃ n v, prun n 202 0 (lv_args 0 [.ref x, .int h, .int w]) [] σ = some (some (.int v), σ)) : vx_Met l yX12_look (xw yX12_look cX12_look 4 (some .int)) ({ frames := 6, cells := 1, slots := 6, locals := 82 } : Room) (va_Pc [.ref x, .int h, .int w] (fun U => xPre D cy σ.1 (pW cy σ) U ∧ xKt (fun _ => False) a1 a2 U)) (va_Qi (fun _ (_ : Unit) => True) (xB D (va_A (pW cy σ) σ.1) (fun _ => pW cy σ)) (va_A (pW cy σ) σ.1)) (vx_X (fun _ : Unit => True) (fun E _ _ => E = xIO ∨ E = xNS) (fun _ => False)) 1 6 (va_A (pW cy σ) σ.1) := by
  refine vx_ofW (cc := cX12_look) (maxL := 4) (ret := some .int) (by decide) rfl ?_
  intro p e s m args below meth c s₁ B hml hxt hv
  obtain ⟨rfl, ⟨hsz, hP, hK, hD0⟩, hT⟩ := hv
  have hx := B.exec
  have hb := B.bytes
  have hr := B.returns
  have hts0 := atoms_spec (ws := xw yX12_look cX12_look 4 (some .int)) B.pre
  have hts : ∀ w ∈ xG, w.before _ s = true := fun w h => hts0 w (List.mem_cons_of_mem _ h)
  have hown : s.vm.findClass RX12 = some m.cls := findClass_of_methodNamed B.named
  have hlocks := B.notSynchronized
  have hnm : meth.name = yX12_look.name := (name_of_methodNamed B.named B.method).1
  have hD := hD0.self (sz := s.heap.size)
  have hl := lv_entry ([.ref x, .int h, .int w]) (n := 4) (Nat.le_of_ble_eq_true rfl)
  rw [lg_entry_eq]
  by_cases hn : (0 ≤ h.toInt ∧ h.toInt ≤ 7) ∧ (0 ≤ w.toInt ∧ w.toInt ≤ 11)
  · obtain ⟨n, v, run⟩ := nrm hn.1 hn.2
    refine vx_ret ?_
    have q := simRun l D cy n 202 0 _ [] σ _ σ run p e (headSpec (xw yX12_look cX12_look 4 (some .int)) ({ frames := 6, cells := 1, slots := 6, locals := 82 } : Room)).room s m _ below meth c (va_A (pW cy σ) σ.1) σ.2.1 ⟨hx, hb, hml, hts, hown, hlocks, hr, hnm, hK⟩ (by decide +kernel) (by decide +kernel) (by omega) (by omega) (fun q hq => Or.inr (by omega))
    have q2 := q _ s.heap [] 0 0 ⟨hl, hP, hsz ▸ hD, va_S.rf, hsz, by omega, by omega⟩
    refine MQ.more q2 (fun o t hq => ?_) (by omega) (by omega)
    obtain ⟨⟨e1, e2, e3, _⟩, e4⟩ := hq
    exact ⟨⟨v, (), e1, trivial, e2, e3⟩, e4⟩
  · generalize (lg_sl ([.ref x, .int h, .int w]) ++ List.replicate (4 - (lg_sl ([.ref x, .int h, .int w])).length) Slot.unset).toArray = ls at hl ⊢
    have hl : lv_has ls 4 [(0, .ref x), (1, .int h), (2, .int w)] := hl
    refine lv_iload_n hx hb dX12_look_0 rfl (lv_at hl 1 rfl) ?_
    refine lv_if_lt (tgt := 10) hx hb dX12_look_1 (by decide) (fun c_1 => ?_) (fun c_1 => ?_)
    · exact vx_throwSW (A := fun _ => False) hx hb hlt hown (by decide +kernel) (by decide +kernel) (hts _ gw1024) (hts _ gw19) hT.2.2.1.1 (xhat0 hts hT) (by decide +kernel) hT.2.2.2.1 hT.2.2.2.2 va_S.rf (by rw [hml]; exact hl.1) dX12_look_10 dX12_look_13 dX12_look_14 dX12_look_17 dX12_look_20 (fun x hx9 => (hxt x hx9).elim) (Nat.le_of_ble_eq_true rfl) (Nat.le_of_ble_eq_true rfl) (Nat.le_of_ble_eq_true rfl) (Nat.le_of_ble_eq_true rfl) hlocks (fun t h1 h2 h3 => ⟨(), trivial, Or.inl rfl, ⟨h2, fun q hq _ => h3 q hq⟩⟩) (fun z hz => nomatch hz) (by decide) (by decide)
    · refine lv_iload_n hx hb dX12_look_4 rfl (lv_at hl 1 rfl) ?_
      refine lv_bipush (v := 8) hx hb dX12_look_5 (by decide) ?_
      refine lv_icmp_lt (tgt := 21) hx hb dX12_look_7 (by decide) (fun c_2 => ?_) (fun c_2 => ?_)
      · refine lv_iload_n hx hb dX12_look_21 rfl (lv_at hl 2 rfl) ?_
        refine lv_if_lt (tgt := 31) hx hb dX12_look_22 (by decide) (fun c_3 => ?_) (fun c_3 => ?_)
        · exact xt_throw (A := fun _ => False) (ix := 13) (rx := xb13) hx hb hlt (by decide +kernel) (by decide +kernel) (by decide +kernel) (by decide +kernel) hown (by decide +kernel) (by decide +kernel) (hts _ gw1090) (hts _ gw20) hT.2.2.1.2 (xhat1 hts hT) (by decide +kernel) hT.2.2.2.1 hT.2.2.2.2 va_S.rf (by rw [hml]; exact hl.1) dX12_look_31 dX12_look_34 dX12_look_35 dX12_look_38 dX12_look_41 (fun x hx9 => (hxt x hx9).elim) (Nat.le_of_ble_eq_true rfl) (Nat.le_of_ble_eq_true rfl) (Nat.le_of_ble_eq_true rfl) (Nat.le_of_ble_eq_true rfl) hlocks (fun t h1 h2 h3 => ⟨(), trivial, Or.inr rfl, ⟨h2, fun q hq _ => h3 q hq⟩⟩) (fun z hz => nomatch hz) (by decide) (by decide)
        · refine lv_iload_n hx hb dX12_look_25 rfl (lv_at hl 2 rfl) ?_
          refine lv_bipush (v := 11) hx hb dX12_look_26 (by decide) ?_
          refine lv_icmp_le (tgt := 42) hx hb dX12_look_28 (by decide) (fun c_4 => ?_) (fun c_4 => ?_)
          · exfalso
            have d1 : ¬ h.toInt < 0 := fun q => c_1 (Int32.lt_iff_toInt_lt.mpr q)
            have d2 : h.toInt < 8 := Int32.lt_iff_toInt_lt.mp c_2
            have d3 : ¬ w.toInt < 0 := fun q => c_3 (Int32.lt_iff_toInt_lt.mpr q)
            have d4 : w.toInt ≤ 11 := Int32.le_iff_toInt_le.mp c_4
            exact hn ⟨⟨by omega, by omega⟩, by omega, d4⟩
          · exact xt_throw (A := fun _ => False) (ix := 13) (rx := xb13) hx hb hlt (by decide +kernel) (by decide +kernel) (by decide +kernel) (by decide +kernel) hown (by decide +kernel) (by decide +kernel) (hts _ gw1090) (hts _ gw20) hT.2.2.1.2 (xhat1 hts hT) (by decide +kernel) hT.2.2.2.1 hT.2.2.2.2 va_S.rf (by rw [hml]; exact hl.1) dX12_look_31 dX12_look_34 dX12_look_35 dX12_look_38 dX12_look_41 (fun x hx9 => (hxt x hx9).elim) (Nat.le_of_ble_eq_true rfl) (Nat.le_of_ble_eq_true rfl) (Nat.le_of_ble_eq_true rfl) (Nat.le_of_ble_eq_true rfl) hlocks (fun t h1 h2 h3 => ⟨(), trivial, Or.inr rfl, ⟨h2, fun q hq _ => h3 q hq⟩⟩) (fun z hz => nomatch hz) (by decide) (by decide)
      · exact vx_throwSW (A := fun _ => False) hx hb hlt hown (by decide +kernel) (by decide +kernel) (hts _ gw1024) (hts _ gw19) hT.2.2.1.1 (xhat0 hts hT) (by decide +kernel) hT.2.2.2.1 hT.2.2.2.2 va_S.rf (by rw [hml]; exact hl.1) dX12_look_10 dX12_look_13 dX12_look_14 dX12_look_17 dX12_look_20 (fun x hx9 => (hxt x hx9).elim) (Nat.le_of_ble_eq_true rfl) (Nat.le_of_ble_eq_true rfl) (Nat.le_of_ble_eq_true rfl) (Nat.le_of_ble_eq_true rfl) hlocks (fun t h1 h2 h3 => ⟨(), trivial, Or.inl rfl, ⟨h2, fun q hq _ => h3 q hq⟩⟩) (fun z hz => nomatch hz) (by decide) (by decide)
set_option maxHeartbeats 4000000 in
set_option maxRecDepth 100000 in
theorem c_Llook (l : Launch) (hlt : l.stackTraces = false) (D : va_G) (cy : Nat → ClassId) {x qo : Nat} {h w : Int32} {a1 a2 : Nat} {σ : ps} (xm : x ∈ sL σ) (xk : sK σ x = 12) (qm : qo ∈ sL σ) (qk : sK σ qo = 38) (nrm : (0 ≤ h.toInt ∧ h.toInt ≤ 7) → (0 ≤ w.toInt ∧ w.toInt ≤ 11) → ∃ n v, prun n 202 0 (lv_args 0 [.ref x, .int h, .int w]) [] σ = some (some (.int v), σ)) : vx_Met l yL_look (Cond.codeWith yL_look cL_look 5 (some .int) [(0, 10, 13, 13), (0, 10, 17, 15)] :: xG) ({ frames := 7, cells := 1, slots := 6, locals := 110 } : Room) (va_Pc [.ref x, .int h, .int w, .ref qo] (fun U => xPre D cy σ.1 (pW cy σ) U ∧ xKt (fun _ => False) a1 a2 U)) (va_Qi (fun _ (u : ps) => u = σ ∨ ∃ v : Int64, u = sPut σ qo 0 (.long v)) (xB D (va_A (pW cy σ) σ.1) (fun u => pW cy u)) (va_A (pW cy σ) σ.1)) (vx_X (fun _ : Unit => True) (fun _ _ _ => False) (fun _ => False)) 1 6 (va_A (pW cy σ) σ.1) := by
  refine vx_ofWH (cc := cL_look) (maxL := 5) (ret := some .int) (hh := [(0, 10, 13, 13), (0, 10, 17, 15)]) (by decide) rfl ?_
  intro p e s m args below meth c s₁ B hml hv
  obtain ⟨rfl, ⟨hsz, hP, hK, hD0⟩, hT⟩ := hv
  have hx := B.exec
  have hb := B.bytes
  have hr := B.returns
  have hts0 := atoms_spec (ws := Cond.codeWith yL_look cL_look 5 (some .int) [(0, 10, 13, 13), (0, 10, 17, 15)] :: xG) B.pre
  have hts : ∀ w ∈ xG, w.before _ s = true := fun w h => hts0 w (List.mem_cons_of_mem _ h)
  have htab := vx_table (x := yL_look) B (hts0 _ List.mem_cons_self)
  have hown : s.vm.findClass RL = some m.cls := findClass_of_methodNamed B.named
  have hlocks := B.notSynchronized
  have hD := hD0.self (sz := s.heap.size)
  rw [← hsz]
  have hcl := c_look l hlt D cy (a1 := a1) (a2 := a2) nrm
  rw [← hsz] at hcl
  generalize hAe : va_A (pW cy σ) s.heap.size = A at hD hcl ⊢
  have hA : ∀ q : Nat, s.heap.size ≤ q → A q := fun q h => by rw [← hAe]; exact Or.inr h
  have hS : va_S A s.heap s.heap [] := va_S.rf
  have hl := lv_entry ([.ref x, .int h, .int w, .ref qo]) (n := 5) (Nat.le_of_ble_eq_true rfl)
  rw [lg_entry_eq]
  generalize (lg_sl ([.ref x, .int h, .int w, .ref qo]) ++ List.replicate (5 - (lg_sl ([.ref x, .int h, .int w, .ref qo])).length) Slot.unset).toArray = ls at hl ⊢
  have hl : lv_has ls 5 [(0, .ref x), (1, .int h), (2, .int w), (3, .ref qo)] := hl
  refine lv_aload_n hx hb dL_look_0 rfl (lv_at hl 3 rfl) ?_
  refine lv_iconst (v := 0) hx hb dL_look_1 (by decide) ?_
  refine lv_aload_n hx hb dL_look_2 rfl (lv_at hl 0 rfl) ?_
  refine lv_iload_n hx hb dL_look_3 rfl (lv_at hl 1 rfl) ?_
  refine lv_iload_n hx hb dL_look_4 rfl (lv_at hl 2 rfl) ?_
  obtain ⟨k0, h0⟩ := pW_at cy xm
  rw [pF_obj xk (by decide)] at h0
  have hFc : ∀ q, A q → A q := fun _ h => h
  refine vx_calli (vx_runV (As := [.int h, .int w]) (rest := [.int 0, .ref qo]) ⟨hx, hb, hml, hown, hts⟩ hcl (cwV 2 hts (xV gw1020 gw1021 gw1022 gw1 gw1023) rfl rfl rfl (by decide +kernel) ⟨(Nat.le_of_ble_eq_true rfl), (Nat.le_of_ble_eq_true rfl)⟩) ⟨xblindT, va_recv hK.1 hP (ci := 12) (q0 := k0) rfl h0, fun U hU hW => ⟨rfl, ⟨by rw [hU], by rw [hU]; exact hP, hK.warm hW, hD.weaken (fun _ _ _ _ => trivial)⟩, xKt.at hW va_S.rf hU hT⟩⟩ rfl rfl hl.1 rfl (lv_room (Nat.le_of_ble_eq_true rfl)) dL_look_5 ⟨(Nat.le_of_ble_eq_true rfl), (Nat.le_of_ble_eq_true rfl)⟩) hS (fun q _ h => hFc q h) hFc (fun q _ h => h.elim) (fun E ce q9 u t H locs ht hvm hpx hBX hz hk hS hce hcv hcl => ?_) (fun r u t H locs ht hvm hw hB hz hk hS => ?_)
  · have hP9 : va_P D vwCl (pW cy σ) H := hP.kept (fun k q hq => hk q.1 ((hP k q hq).lt) (fun f => f))
    rcases hBX with rfl | rfl
    · refine vx_catch hown [] { startPc := 0, endPc := 10, handlerPc := 13, catchType := 13 } [{ startPc := 0, endPc := 10, handlerPc := 17, catchType := 15 }] (by rw [htab]; rfl) (fun z hz => nomatch hz) (by decide) (by decide) (hts _ gw1018) (va_Nw.use rfl hT.2.1.1) hce hcv hcl ?_
      refine lv_astore (lv' := [(4, .ref q9), (0, .ref x), (1, .int h), (2, .int w), (3, .ref qo)]) hx hb dL_look_13 hl (by decide) rfl (fun ls hl => ?_)
      refine lv_iconst (v := 1) hx hb dL_look_15 (by decide) ?_
      refine W.widen (k := 1) (n := 6) (Nat.le_of_ble_eq_true rfl) (Nat.le_of_ble_eq_true rfl) ?_
      refine vx_ret ?_
      exact W.iret (v := 1) hx hb hr (fun t ht hW => ⟨⟨1, σ, rfl, Or.inl rfl, by rw [ht]; exact hP9, hD⟩, hS.F ht⟩) hS.2.2 dL_look_16
    · refine vx_catch hown [{ startPc := 0, endPc := 10, handlerPc := 13, catchType := 13 }] { startPc := 0, endPc := 10, handlerPc := 17, catchType := 15 } [] (by rw [htab]; rfl) (fun z hz => by rw [List.mem_singleton.mp hz]; exact Or.inr ⟨by decide, xIO, hts _ gw1018, hT.2.1.2.2⟩) (by decide) (by decide) (hts _ gw1019) (va_Nw.use rfl hT.2.1.2.1) hce hcv hcl ?_
      refine lv_astore (lv' := [(4, .ref q9), (0, .ref x), (1, .int h), (2, .int w), (3, .ref qo)]) hx hb dL_look_17 hl (by decide) rfl (fun ls hl => ?_)
      refine lv_iconst (v := 2) hx hb dL_look_19 (by decide) ?_
      refine W.widen (k := 1) (n := 6) (Nat.le_of_ble_eq_true rfl) (Nat.le_of_ble_eq_true rfl) ?_
      refine vx_ret ?_
      exact W.iret (v := 2) hx hb hr (fun t ht hW => ⟨⟨2, σ, rfl, Or.inl rfl, by rw [ht]; exact hP9, hD⟩, hS.F ht⟩) hS.2.2 dL_look_20
  · obtain ⟨hP1, hD1⟩ := hB
    rw [ht] at hP1
    have hP1 : va_P D vwCl (pW cy σ) H := hP1
    refine lv_i2l (v := r.toInt64) hx hb dL_look_8 rfl ?_
    obtain ⟨q0, h1⟩ := pW_at cy qm
    have h1' := h1
    have hk14 : 14 ≤ sK σ qo := by rw [qk]; decide
    have hrr : (rk (sK σ qo)).1 = 2 := by rw [qk]; decide
    rw [pF_row hk14, hrr, rowF_l] at h1
    refine va_last hx hb hK.1 hP1 hD hS q0 2 h1 rfl (show vp_in 0 _ by rw [qk]; unfold vp_in; decide) dL_look_9 (fun H locs hP2 hD2 hS2 => ?_)
    rw [← hrr] at hP2 hD2
    rw [pW_set (σ' := sPut σ qo (0 : Int32).toNatClampNeg (.long r.toInt64)) hD qm h1' rfl (fun b => pF_putR hk14 (by rw [hrr, rowF_l, toL_up]) b)] at hP2 hD2
    refine lv_goto (tgt := 21) hx hb dL_look_10 (by decide) ?_
    refine lv_iconst (v := 0) hx hb dL_look_21 (by decide) ?_
    refine W.widen (k := 1) (n := 6) (Nat.le_of_ble_eq_true rfl) (Nat.le_of_ble_eq_true rfl) ?_
    refine vx_ret ?_
    exact W.iret (v := 0) hx hb hr (fun t ht hW => ⟨⟨0, sPut σ qo 0 (.long r.toInt64), rfl, Or.inr ⟨_, rfl⟩, by rw [ht]; exact hP2, hD2⟩, hS2.F ht⟩) hS2.2.2 dL_look_22
