theorem gw1024 : (Cond.classLink RX12 457 "java/lang/IndexOutOfBoundsException") ∈ xG := xin5 64 (by decide +kernel) (by decide +kernel)
theorem gw19 : (Cond.initialized "java/lang/IndexOutOfBoundsException") ∈ xG := xin1 19 (by decide +kernel) (by decide +kernel)
theorem gw1090 : (Cond.classLink RX12 464 "java/util/NoSuchElementException") ∈ xG := xin5 130 (by decide +kernel) (by decide +kernel)
theorem gw20 : (Cond.initialized "java/util/NoSuchElementException") ∈ xG := xin1 20 (by decide +kernel) (by decide +kernel)
theorem gw1020 : (Cond.methodLink RL 7 yX12_look) ∈ xG := xin5 60 (by decide +kernel) (by decide +kernel)
theorem gw1021 : (Cond.instanceMethod yX12_look) ∈ xG := xin5 61 (by decide +kernel) (by decide +kernel)
theorem gw1022 : (Cond.selects RX12 yX12_look yX12_look) ∈ xG := xin5 62 (by decide +kernel) (by decide +kernel)
theorem gw1023 : (Cond.code yX12_look cX12_look 4 (Option.some .int)) ∈ xG := xin5 63 (by decide +kernel) (by decide +kernel)
theorem gw1018 : (Cond.classLink RL 13 "java/lang/IndexOutOfBoundsException") ∈ xG := xin5 58 (by decide +kernel) (by decide +kernel)
theorem gw1019 : (Cond.classLink RL 15 "java/util/NoSuchElementException") ∈ xG := xin5 59 (by decide +kernel) (by decide +kernel)
abbrev xIO : String := "java/lang/IndexOutOfBoundsException"
abbrev xNS : String := "java/util/NoSuchElementException"
abbrev xRT : List String := ["java/lang/RuntimeException", "java/lang/Exception"]
abbrev xb13 : ByteArray := prog_22_method_4_code
/-- what a throw rests on, beside the good words -/
def xKt (A : Nat → Prop) (a1 a2 : Nat) (U : State) : Prop := (va_Nw (.declares (Bundle.initS "java/lang/RuntimeException")) U ∧ va_Nw (.declares (Bundle.initS "java/lang/Exception")) U ∧ va_Nw (.declares (Bundle.initS Bundle.tN)) U) ∧ (va_Nw (.castable xIO xIO) U ∧ va_Nw (.castable xNS xNS) U ∧ va_Nc xNS xIO U) ∧ (vk_R RX12 459 "no such host" a1 U ∧ vk_R RX12 466 "nothing such to look at" a2 U) ∧ vx_Zq Bundle.tN "UNASSIGNED_STACK" Bundle.steD A U U.heap ∧ vx_Zq Bundle.tN "SUPPRESSED_SENTINEL" Bundle.listD A U U.heap
theorem xKt.same {A : Nat → Prop} {a1 a2 : Nat} {U V : State} (ev : U.vm = V.vm) (eh : U.heap = V.heap) (h : xKt A a1 a2 U) : xKt A a1 a2 V := by
  obtain ⟨⟨h1, h2, h3⟩, ⟨h4, h5, h6⟩, ⟨h7, h8⟩, h9, h10⟩ := h
  have ha : U.vm.Alike V.vm := by rw [ev]; exact Vm.Alike.refl V.vm
  rw [eh] at h9 h10
  exact ⟨⟨va_Nw.same rfl ev h1, va_Nw.same rfl ev h2, va_Nw.same rfl ev h3⟩, ⟨va_Nw.same rfl ev h4, va_Nw.same rfl ev h5, h6.moved ha⟩, ⟨h7.same ev.symm, h8.same ev.symm⟩, h9.moved ha, h10.moved ha⟩
theorem xKt.at {A : Nat → Prop} {a1 a2 : Nat} {s U : State} {H : Heap} {locs : List Loc} (hW : s.WarmedH U.vm) (hS : va_S A s.heap H locs) (hU : U.heap = H) (h : xKt A a1 a2 s) : xKt (fun _ => False) a1 a2 U := by
  obtain ⟨⟨h1, h2, h3⟩, ⟨h4, h5, h6⟩, ⟨h7, h8⟩, h9, h10⟩ := h
  subst hU
  exact ⟨⟨va_Nw.warmD hW h1, va_Nw.warmD hW h2, va_Nw.warmD hW h3⟩, ⟨va_Nw.warmC hW h4, va_Nw.warmC hW h5, h6.moved hW.alike⟩, ⟨h7.warm hW, h8.warm hW⟩, ((h9.kept (fun a ha hn => hS.2.1 a ha hn)).narrow (fun _ f => f.elim)).moved hW.alike, ((h10.kept (fun a ha hn => hS.2.1 a ha hn)).narrow (fun _ f => f.elim)).moved hW.alike⟩
theorem xblindT {D : va_G} {cy : Nat → ClassId} {sz a1 a2 : Nat} {ws : va_W} {A : Nat → Prop} {av : List Value} : FrameBlind (va_Pc av (fun U => xPre D cy sz ws U ∧ xKt A a1 a2 U)) := fun a U g mk q => by
  obtain ⟨q0, ⟨q1, qP, qK, qD⟩, qT⟩ := q
  exact ⟨q0, ⟨q1, qP, qK.same rfl, qD⟩, qT.same rfl rfl⟩
theorem xat0 : ∀ w ∈ (vx_atS RX12 461 xIO xRT).filter goodWord, w ∈ xG := fun w h => List.mem_filter.mpr ⟨(show ∀ w ∈ (vx_atS RX12 461 xIO xRT).filter goodWord, w ∈ lw_tbl by decide +kernel) w h, (List.mem_filter.mp h).2⟩
theorem xat1 : ∀ w ∈ (xt_at RX12 468 xNS 13 xb13 xRT).filter goodWord, w ∈ xG := fun w h => List.mem_filter.mpr ⟨(show ∀ w ∈ (xt_at RX12 468 xNS 13 xb13 xRT).filter goodWord, w ∈ lw_tbl by decide +kernel) w h, (List.mem_filter.mp h).2⟩
theorem xhat0 {A : Nat → Prop} {a1 a2 : Nat} {args : Array Value} {s : State} (hts : ∀ w ∈ xG, w.before args s = true) (h : xKt A a1 a2 s) : ∀ w ∈ vx_atS RX12 461 xIO xRT, w.before args s = true :=
  vx_hat (B := [.declares (Bundle.initS "java/lang/RuntimeException"), .declares (Bundle.initS "java/lang/Exception"), .declares (Bundle.initS Bundle.tN), .castable xIO xIO]) (fun w hw => hts w (xat0 w hw)) (by decide +kernel) (vx_c (va_Nw.use rfl h.1.1) (vx_c (va_Nw.use rfl h.1.2.1) (vx_c (va_Nw.use rfl h.1.2.2) (vx_c (va_Nw.use rfl h.2.1.1) vx_n))))
theorem xhat1 {A : Nat → Prop} {a1 a2 : Nat} {args : Array Value} {s : State} (hts : ∀ w ∈ xG, w.before args s = true) (h : xKt A a1 a2 s) : ∀ w ∈ xt_at RX12 468 xNS 13 xb13 xRT, w.before args s = true :=
  vx_hat (B := [.declares (Bundle.initS "java/lang/RuntimeException"), .declares (Bundle.initS "java/lang/Exception"), .declares (Bundle.initS Bundle.tN), .castable xNS xNS]) (fun w hw => hts w (xat1 w hw)) (by decide +kernel) (vx_c (va_Nw.use rfl h.1.1) (vx_c (va_Nw.use rfl h.1.2.1) (vx_c (va_Nw.use rfl h.1.2.2) (vx_c (va_Nw.use rfl h.2.1.2.1) vx_n))))
set_option maxHeartbeats 4000000 in
set_option maxRecDepth 100000 in
theorem c_look (l : Launch) (hlt : l.stackTraces = false) (D : va_G) (cy : Nat → ClassId) (x : Nat) (n : Nat → Nat) (h w : Int32) (a1 a2 : Nat) (sz : Nat) : vx_Met l yX12_look (xw yX12_look cX12_look 4 (some .int)) ({ frames := 6, cells := 1, slots := 6, locals := 82 } : Room) (va_Pc [.ref x, .int h, .int w] (fun U => xPre D cy sz [(x, .inr (12, [.ref (n 0), .ref (n 1), .ref (n 4), .ref (n 5), .ref (n 6), .int 0, .int 0, .null, .long (-1), .long 0])), (n 0, .inl (cy 5, 8, .inr (.inr (.inr (.inr (xa [some (n 7), some (n 25), some (n 43), some (n 61), some (n 79), some (n 97), some (n 115), some (n 133)])))))), (n 7, .inr (3, [.int 0, .ref (n 8), .ref (n 9), .ref (n 10), .ref (n 11), .ref (n 12), .ref (n 13), .int 0, .int 0, .int 0, .int 0, .int 0, .int 0, .int 0, .int 0, .int 0])), (n 25, .inr (3, [.int 1, .ref (n 26), .ref (n 27), .ref (n 28), .ref (n 29), .ref (n 30), .ref (n 31), .int 0, .int 0, .int 0, .int 0, .int 0, .int 0, .int 0, .int 0, .int 0])), (n 43, .inr (3, [.int 2, .ref (n 44), .ref (n 45), .ref (n 46), .ref (n 47), .ref (n 48), .ref (n 49), .int 0, .int 0, .int 0, .int 0, .int 0, .int 0, .int 0, .int 0, .int 0])), (n 61, .inr (3, [.int 3, .ref (n 62), .ref (n 63), .ref (n 64), .ref (n 65), .ref (n 66), .ref (n 67), .int 0, .int 0, .int 0, .int 0, .int 0, .int 0, .int 0, .int 0, .int 0])), (n 79, .inr (3, [.int 4, .ref (n 80), .ref (n 81), .ref (n 82), .ref (n 83), .ref (n 84), .ref (n 85), .int 0, .int 0, .int 0, .int 0, .int 0, .int 0, .int 0, .int 0, .int 0])), (n 97, .inr (3, [.int 5, .ref (n 98), .ref (n 99), .ref (n 100), .ref (n 101), .ref (n 102), .ref (n 103), .int 0, .int 0, .int 0, .int 0, .int 0, .int 0, .int 0, .int 0, .int 0])), (n 115, .inr (3, [.int 6, .ref (n 116), .ref (n 117), .ref (n 118), .ref (n 119), .ref (n 120), .ref (n 121), .int 0, .int 0, .int 0, .int 0, .int 0, .int 0, .int 0, .int 0, .int 0])), (n 133, .inr (3, [.int 7, .ref (n 134), .ref (n 135), .ref (n 136), .ref (n 137), .ref (n 138), .ref (n 139), .int 0, .int 0, .int 0, .int 0, .int 0, .int 0, .int 0, .int 0, .int 0]))] U ∧ xKt (fun _ => False) a1 a2 U)) (va_Qi (fun r (_ : Unit) => r = xlk h w ∧ xth h w = 0) (xB D (va_A [(x, .inr (12, [.ref (n 0), .ref (n 1), .ref (n 4), .ref (n 5), .ref (n 6), .int 0, .int 0, .null, .long (-1), .long 0])), (n 0, .inl (cy 5, 8, .inr (.inr (.inr (.inr (xa [some (n 7), some (n 25), some (n 43), some (n 61), some (n 79), some (n 97), some (n 115), some (n 133)])))))), (n 7, .inr (3, [.int 0, .ref (n 8), .ref (n 9), .ref (n 10), .ref (n 11), .ref (n 12), .ref (n 13), .int 0, .int 0, .int 0, .int 0, .int 0, .int 0, .int 0, .int 0, .int 0])), (n 25, .inr (3, [.int 1, .ref (n 26), .ref (n 27), .ref (n 28), .ref (n 29), .ref (n 30), .ref (n 31), .int 0, .int 0, .int 0, .int 0, .int 0, .int 0, .int 0, .int 0, .int 0])), (n 43, .inr (3, [.int 2, .ref (n 44), .ref (n 45), .ref (n 46), .ref (n 47), .ref (n 48), .ref (n 49), .int 0, .int 0, .int 0, .int 0, .int 0, .int 0, .int 0, .int 0, .int 0])), (n 61, .inr (3, [.int 3, .ref (n 62), .ref (n 63), .ref (n 64), .ref (n 65), .ref (n 66), .ref (n 67), .int 0, .int 0, .int 0, .int 0, .int 0, .int 0, .int 0, .int 0, .int 0])), (n 79, .inr (3, [.int 4, .ref (n 80), .ref (n 81), .ref (n 82), .ref (n 83), .ref (n 84), .ref (n 85), .int 0, .int 0, .int 0, .int 0, .int 0, .int 0, .int 0, .int 0, .int 0])), (n 97, .inr (3, [.int 5, .ref (n 98), .ref (n 99), .ref (n 100), .ref (n 101), .ref (n 102), .ref (n 103), .int 0, .int 0, .int 0, .int 0, .int 0, .int 0, .int 0, .int 0, .int 0])), (n 115, .inr (3, [.int 6, .ref (n 116), .ref (n 117), .ref (n 118), .ref (n 119), .ref (n 120), .ref (n 121), .int 0, .int 0, .int 0, .int 0, .int 0, .int 0, .int 0, .int 0, .int 0])), (n 133, .inr (3, [.int 7, .ref (n 134), .ref (n 135), .ref (n 136), .ref (n 137), .ref (n 138), .ref (n 139), .int 0, .int 0, .int 0, .int 0, .int 0, .int 0, .int 0, .int 0, .int 0]))] sz) (fun _ => [])) (va_A [(x, .inr (12, [.ref (n 0), .ref (n 1), .ref (n 4), .ref (n 5), .ref (n 6), .int 0, .int 0, .null, .long (-1), .long 0])), (n 0, .inl (cy 5, 8, .inr (.inr (.inr (.inr (xa [some (n 7), some (n 25), some (n 43), some (n 61), some (n 79), some (n 97), some (n 115), some (n 133)])))))), (n 7, .inr (3, [.int 0, .ref (n 8), .ref (n 9), .ref (n 10), .ref (n 11), .ref (n 12), .ref (n 13), .int 0, .int 0, .int 0, .int 0, .int 0, .int 0, .int 0, .int 0, .int 0])), (n 25, .inr (3, [.int 1, .ref (n 26), .ref (n 27), .ref (n 28), .ref (n 29), .ref (n 30), .ref (n 31), .int 0, .int 0, .int 0, .int 0, .int 0, .int 0, .int 0, .int 0, .int 0])), (n 43, .inr (3, [.int 2, .ref (n 44), .ref (n 45), .ref (n 46), .ref (n 47), .ref (n 48), .ref (n 49), .int 0, .int 0, .int 0, .int 0, .int 0, .int 0, .int 0, .int 0, .int 0])), (n 61, .inr (3, [.int 3, .ref (n 62), .ref (n 63), .ref (n 64), .ref (n 65), .ref (n 66), .ref (n 67), .int 0, .int 0, .int 0, .int 0, .int 0, .int 0, .int 0, .int 0, .int 0])), (n 79, .inr (3, [.int 4, .ref (n 80), .ref (n 81), .ref (n 82), .ref (n 83), .ref (n 84), .ref (n 85), .int 0, .int 0, .int 0, .int 0, .int 0, .int 0, .int 0, .int 0, .int 0])), (n 97, .inr (3, [.int 5, .ref (n 98), .ref (n 99), .ref (n 100), .ref (n 101), .ref (n 102), .ref (n 103), .int 0, .int 0, .int 0, .int 0, .int 0, .int 0, .int 0, .int 0, .int 0])), (n 115, .inr (3, [.int 6, .ref (n 116), .ref (n 117), .ref (n 118), .ref (n 119), .ref (n 120), .ref (n 121), .int 0, .int 0, .int 0, .int 0, .int 0, .int 0, .int 0, .int 0, .int 0])), (n 133, .inr (3, [.int 7, .ref (n 134), .ref (n 135), .ref (n 136), .ref (n 137), .ref (n 138), .ref (n 139), .int 0, .int 0, .int 0, .int 0, .int 0, .int 0, .int 0, .int 0, .int 0]))] sz)) (vx_X (fun _ : Unit => True) (fun E _ _ => (E = xIO ∧ xth h w = 1) ∨ (E = xNS ∧ xth h w = 2)) (fun _ => False)) 1 6 (va_A [(x, .inr (12, [.ref (n 0), .ref (n 1), .ref (n 4), .ref (n 5), .ref (n 6), .int 0, .int 0, .null, .long (-1), .long 0])), (n 0, .inl (cy 5, 8, .inr (.inr (.inr (.inr (xa [some (n 7), some (n 25), some (n 43), some (n 61), some (n 79), some (n 97), some (n 115), some (n 133)])))))), (n 7, .inr (3, [.int 0, .ref (n 8), .ref (n 9), .ref (n 10), .ref (n 11), .ref (n 12), .ref (n 13), .int 0, .int 0, .int 0, .int 0, .int 0, .int 0, .int 0, .int 0, .int 0])), (n 25, .inr (3, [.int 1, .ref (n 26), .ref (n 27), .ref (n 28), .ref (n 29), .ref (n 30), .ref (n 31), .int 0, .int 0, .int 0, .int 0, .int 0, .int 0, .int 0, .int 0, .int 0])), (n 43, .inr (3, [.int 2, .ref (n 44), .ref (n 45), .ref (n 46), .ref (n 47), .ref (n 48), .ref (n 49), .int 0, .int 0, .int 0, .int 0, .int 0, .int 0, .int 0, .int 0, .int 0])), (n 61, .inr (3, [.int 3, .ref (n 62), .ref (n 63), .ref (n 64), .ref (n 65), .ref (n 66), .ref (n 67), .int 0, .int 0, .int 0, .int 0, .int 0, .int 0, .int 0, .int 0, .int 0])), (n 79, .inr (3, [.int 4, .ref (n 80), .ref (n 81), .ref (n 82), .ref (n 83), .ref (n 84), .ref (n 85), .int 0, .int 0, .int 0, .int 0, .int 0, .int 0, .int 0, .int 0, .int 0])), (n 97, .inr (3, [.int 5, .ref (n 98), .ref (n 99), .ref (n 100), .ref (n 101), .ref (n 102), .ref (n 103), .int 0, .int 0, .int 0, .int 0, .int 0, .int 0, .int 0, .int 0, .int 0])), (n 115, .inr (3, [.int 6, .ref (n 116), .ref (n 117), .ref (n 118), .ref (n 119), .ref (n 120), .ref (n 121), .int 0, .int 0, .int 0, .int 0, .int 0, .int 0, .int 0, .int 0, .int 0])), (n 133, .inr (3, [.int 7, .ref (n 134), .ref (n 135), .ref (n 136), .ref (n 137), .ref (n 138), .ref (n 139), .int 0, .int 0, .int 0, .int 0, .int 0, .int 0, .int 0, .int 0, .int 0]))] sz) := by
  refine vx_ofW (cc := cX12_look) (maxL := 4) (ret := some .int) (by decide) rfl ?_
  intro p e s m args below meth c s₁ B hml hxt hv
  obtain ⟨rfl, ⟨hsz, hP, hK, hD0⟩, hT⟩ := hv
  have hx := B.exec
  have hb := B.bytes
  have hr := B.returns
  have hts0 := atoms_spec (ws := xw yX12_look cX12_look 4 (some .int)) B.pre
  have hts : ∀ w ∈ xG, w.before _ s = true := fun w h => hts0 w (List.mem_cons_of_mem _ h)
  have hown : s.vm.findClass RX12 = some m.cls := findClass_of_methodNamed B.named
  have hlocks := B.notSynchronized
  subst hsz
  have hD := hD0.self (sz := s.heap.size)
  generalize hAe : va_A [(x, .inr (12, [.ref (n 0), .ref (n 1), .ref (n 4), .ref (n 5), .ref (n 6), .int 0, .int 0, .null, .long (-1), .long 0])), (n 0, .inl (cy 5, 8, .inr (.inr (.inr (.inr (xa [some (n 7), some (n 25), some (n 43), some (n 61), some (n 79), some (n 97), some (n 115), some (n 133)])))))), (n 7, .inr (3, [.int 0, .ref (n 8), .ref (n 9), .ref (n 10), .ref (n 11), .ref (n 12), .ref (n 13), .int 0, .int 0, .int 0, .int 0, .int 0, .int 0, .int 0, .int 0, .int 0])), (n 25, .inr (3, [.int 1, .ref (n 26), .ref (n 27), .ref (n 28), .ref (n 29), .ref (n 30), .ref (n 31), .int 0, .int 0, .int 0, .int 0, .int 0, .int 0, .int 0, .int 0, .int 0])), (n 43, .inr (3, [.int 2, .ref (n 44), .ref (n 45), .ref (n 46), .ref (n 47), .ref (n 48), .ref (n 49), .int 0, .int 0, .int 0, .int 0, .int 0, .int 0, .int 0, .int 0, .int 0])), (n 61, .inr (3, [.int 3, .ref (n 62), .ref (n 63), .ref (n 64), .ref (n 65), .ref (n 66), .ref (n 67), .int 0, .int 0, .int 0, .int 0, .int 0, .int 0, .int 0, .int 0, .int 0])), (n 79, .inr (3, [.int 4, .ref (n 80), .ref (n 81), .ref (n 82), .ref (n 83), .ref (n 84), .ref (n 85), .int 0, .int 0, .int 0, .int 0, .int 0, .int 0, .int 0, .int 0, .int 0])), (n 97, .inr (3, [.int 5, .ref (n 98), .ref (n 99), .ref (n 100), .ref (n 101), .ref (n 102), .ref (n 103), .int 0, .int 0, .int 0, .int 0, .int 0, .int 0, .int 0, .int 0, .int 0])), (n 115, .inr (3, [.int 6, .ref (n 116), .ref (n 117), .ref (n 118), .ref (n 119), .ref (n 120), .ref (n 121), .int 0, .int 0, .int 0, .int 0, .int 0, .int 0, .int 0, .int 0, .int 0])), (n 133, .inr (3, [.int 7, .ref (n 134), .ref (n 135), .ref (n 136), .ref (n 137), .ref (n 138), .ref (n 139), .int 0, .int 0, .int 0, .int 0, .int 0, .int 0, .int 0, .int 0, .int 0]))] s.heap.size = A at hD ⊢
  have hA : ∀ q : Nat, s.heap.size ≤ q → A q := fun q h => by rw [← hAe]; exact Or.inr h
  have hS : va_S A s.heap s.heap [] := va_S.rf
  have hl := lv_entry ([.ref x, .int h, .int w]) (n := 4) (Nat.le_of_ble_eq_true rfl)
  rw [lg_entry_eq]
  generalize (lg_sl ([.ref x, .int h, .int w]) ++ List.replicate (4 - (lg_sl ([.ref x, .int h, .int w])).length) Slot.unset).toArray = ls at hl ⊢
  have hl : lv_has ls 4 [(0, .ref x), (1, .int h), (2, .int w)] := hl
  refine lv_iload_n hx hb dX12_look_0 rfl (lv_at hl 1 rfl) ?_
  refine lv_if_lt (tgt := 10) hx hb dX12_look_1 (by decide) (fun c_1 => ?_) (fun c_1 => ?_)
  · exact vx_throwSW (A := fun _ => False) hx hb hlt hown (by decide +kernel) (by decide +kernel) (hts _ gw1024) (hts _ gw19) hT.2.2.1.1 (xhat0 hts hT) (by decide +kernel) hT.2.2.2.1 hT.2.2.2.2 va_S.rf (by rw [hml]; exact hl.1) dX12_look_10 dX12_look_13 dX12_look_14 dX12_look_17 dX12_look_20 (fun x hx9 => (hxt x hx9).elim) (Nat.le_of_ble_eq_true rfl) (Nat.le_of_ble_eq_true rfl) (Nat.le_of_ble_eq_true rfl) (Nat.le_of_ble_eq_true rfl) hlocks (fun t h1 h2 h3 => ⟨(), trivial, Or.inl ⟨rfl, by unfold xth; rw [if_pos c_1]⟩, ⟨h2, fun q hq _ => h3 q hq⟩⟩) (fun z hz => nomatch hz) (by decide) (by decide)
  · refine lv_iload_n hx hb dX12_look_4 rfl (lv_at hl 1 rfl) ?_
    refine lv_bipush (v := 8) hx hb dX12_look_5 (by decide) ?_
    refine lv_icmp_lt (tgt := 21) hx hb dX12_look_7 (by decide) (fun c_2 => ?_) (fun c_2 => ?_)
    · refine lv_iload_n hx hb dX12_look_21 rfl (lv_at hl 2 rfl) ?_
      refine lv_if_lt (tgt := 31) hx hb dX12_look_22 (by decide) (fun c_3 => ?_) (fun c_3 => ?_)
      · exact xt_throw (A := fun _ => False) (ix := 13) (rx := xb13) hx hb hlt (by decide +kernel) (by decide +kernel) (by decide +kernel) (by decide +kernel) hown (by decide +kernel) (by decide +kernel) (hts _ gw1090) (hts _ gw20) hT.2.2.1.2 (xhat1 hts hT) (by decide +kernel) hT.2.2.2.1 hT.2.2.2.2 va_S.rf (by rw [hml]; exact hl.1) dX12_look_31 dX12_look_34 dX12_look_35 dX12_look_38 dX12_look_41 (fun x hx9 => (hxt x hx9).elim) (Nat.le_of_ble_eq_true rfl) (Nat.le_of_ble_eq_true rfl) (Nat.le_of_ble_eq_true rfl) (Nat.le_of_ble_eq_true rfl) hlocks (fun t h1 h2 h3 => ⟨(), trivial, Or.inr ⟨rfl, by unfold xth; rw [if_neg c_1, if_neg (Int32.not_le.mpr c_2), if_pos c_3]⟩, ⟨h2, fun q hq _ => h3 q hq⟩⟩) (fun z hz => nomatch hz) (by decide) (by decide)
      · refine lv_iload_n hx hb dX12_look_25 rfl (lv_at hl 2 rfl) ?_
        refine lv_bipush (v := 11) hx hb dX12_look_26 (by decide) ?_
        refine lv_icmp_le (tgt := 42) hx hb dX12_look_28 (by decide) (fun c_4 => ?_) (fun c_4 => ?_)
        · refine lv_aload_n hx hb dX12_look_42 rfl (lv_at hl 0 rfl) ?_
          refine va_get (D := D) (ci := 12) (v := .ref (n 0)) (C := RX12) (T := TX12) (N := 10) hx hb hts iG12 hown hK.1 hP 0 rfl rfl 0 (by decide) (hts _ gw453) (fun _ h9 => h9) rfl dX12_look_43 ?_
          refine lv_iload_n hx hb dX12_look_46 rfl (lv_at hl 1 rfl) ?_
          rcases xcase8 c_1 (Int32.not_le.mpr c_2) with rfl | rfl | rfl | rfl | rfl | rfl | rfl | rfl
          · refine va_aldq hx hb hK.1 hP 1 5 rfl rfl (show vp_in 0 8 by unfold vp_in; decide) dX12_look_47 ?_
            refine x_cv (y := .ref (n 7)) rfl ?_
            refine lv_astore_n (lv' := [(3, .ref (n 7)), (0, .ref x), (1, .int 0), (2, .int w)]) hx hb dX12_look_48 rfl hl (by decide) rfl (fun ls hl => ?_)
            refine lv_iload_n hx hb dX12_look_49 rfl (lv_at hl 3 rfl) ?_
            refine lv_bipush (v := 9) hx hb dX12_look_50 (by decide) ?_
            refine lv_icmp_ne (tgt := 60) hx hb dX12_look_52 (by decide) (fun c_5 => ?_) (fun c_5 => ?_)
            · refine lv_aload_n hx hb dX12_look_60 rfl (lv_at hl 0 rfl) ?_
              refine va_get (D := D) (ci := 3) (v := .int 0) (C := RX3) (T := TX3) (N := 16) hx hb hts iG3 hown hK.1 hP 2 rfl rfl 7 (by decide) (hts _ gw403) (fun _ h9 => h9) rfl dX12_look_61 ?_
              refine lv_if_ne (tgt := 78) hx hb dX12_look_64 (by decide) (fun c_6 => ?_) (fun c_6 => ?_)
              · exact absurd c_6 (by decide)
              · refine lv_iload_n hx hb dX12_look_67 rfl (lv_at hl 3 rfl) ?_
                refine lv_iconst (v := 2) hx hb dX12_look_68 (by decide) ?_
                refine lv_icmp_ne (tgt := 76) hx hb dX12_look_69 (by decide) (fun c_7 => ?_) (fun c_7 => ?_)
                · refine lv_iconst (v := 0) hx hb dX12_look_76 (by decide) ?_
                  have hP9 := hP.sub (ws' := []) [] rfl
                  have hD9 := hD.sub (ws' := []) [] (by decide) rfl
                  refine W.widen (k := 1) (n := 6) (Nat.le_of_ble_eq_true rfl) (Nat.le_of_ble_eq_true rfl) ?_
                  refine vx_ret ?_
                  exact W.iret (v := 0) hx hb hr (fun t ht hW => ⟨⟨0, (), rfl, ⟨show _ = xlk 0 w by unfold xlk; rw [if_neg c_1, if_neg (Int32.not_le.mpr c_2), if_neg c_3, if_pos c_4]; rw [if_neg c_7], show xth 0 w = 0 by unfold xth; rw [if_neg c_1, if_neg (Int32.not_le.mpr c_2), if_neg c_3, if_pos c_4]⟩, by rw [ht]; exact hP9, hD9⟩, hS.F ht⟩) hS.2.2 dX12_look_77
                · refine lv_iconst (v := (-1)) hx hb dX12_look_72 (by decide) ?_
                  refine lv_goto (tgt := 77) hx hb dX12_look_73 (by decide) ?_
                  have hP9 := hP.sub (ws' := []) [] rfl
                  have hD9 := hD.sub (ws' := []) [] (by decide) rfl
                  refine W.widen (k := 1) (n := 6) (Nat.le_of_ble_eq_true rfl) (Nat.le_of_ble_eq_true rfl) ?_
                  refine vx_ret ?_
                  exact W.iret (v := (-1)) hx hb hr (fun t ht hW => ⟨⟨(-1), (), rfl, ⟨show _ = xlk 0 w by unfold xlk; rw [if_neg c_1, if_neg (Int32.not_le.mpr c_2), if_neg c_3, if_pos c_4]; rw [if_pos c_7], show xth 0 w = 0 by unfold xth; rw [if_neg c_1, if_neg (Int32.not_le.mpr c_2), if_neg c_3, if_pos c_4]⟩, by rw [ht]; exact hP9, hD9⟩, hS.F ht⟩) hS.2.2 dX12_look_77
            · refine lv_aload_n hx hb dX12_look_55 rfl (lv_at hl 0 rfl) ?_
              refine va_get (D := D) (ci := 3) (v := .int 0) (C := RX3) (T := TX3) (N := 16) hx hb hts iG3 hown hK.1 hP 2 rfl rfl 9 (by decide) (hts _ gw407) (fun _ h9 => h9) rfl dX12_look_56 ?_
              have hP9 := hP.sub (ws' := []) [] rfl
              have hD9 := hD.sub (ws' := []) [] (by decide) rfl
              refine W.widen (k := 1) (n := 6) (Nat.le_of_ble_eq_true rfl) (Nat.le_of_ble_eq_true rfl) ?_
              refine vx_ret ?_
              exact W.iret (v := 0) hx hb hr (fun t ht hW => ⟨⟨0, (), rfl, ⟨show _ = xlk 0 w by unfold xlk; rw [if_neg c_1, if_neg (Int32.not_le.mpr c_2), if_neg c_3, if_pos c_4]; rw [c_5]; rfl, show xth 0 w = 0 by unfold xth; rw [if_neg c_1, if_neg (Int32.not_le.mpr c_2), if_neg c_3, if_pos c_4]⟩, by rw [ht]; exact hP9, hD9⟩, hS.F ht⟩) hS.2.2 dX12_look_59
          · refine va_aldq hx hb hK.1 hP 1 5 rfl rfl (show vp_in 1 8 by unfold vp_in; decide) dX12_look_47 ?_
            refine x_cv (y := .ref (n 25)) rfl ?_
            refine lv_astore_n (lv' := [(3, .ref (n 25)), (0, .ref x), (1, .int 1), (2, .int w)]) hx hb dX12_look_48 rfl hl (by decide) rfl (fun ls hl => ?_)
            refine lv_iload_n hx hb dX12_look_49 rfl (lv_at hl 3 rfl) ?_
            refine lv_bipush (v := 9) hx hb dX12_look_50 (by decide) ?_
            refine lv_icmp_ne (tgt := 60) hx hb dX12_look_52 (by decide) (fun c_8 => ?_) (fun c_8 => ?_)
            · refine lv_aload_n hx hb dX12_look_60 rfl (lv_at hl 0 rfl) ?_
              refine va_get (D := D) (ci := 3) (v := .int 0) (C := RX3) (T := TX3) (N := 16) hx hb hts iG3 hown hK.1 hP 3 rfl rfl 7 (by decide) (hts _ gw403) (fun _ h9 => h9) rfl dX12_look_61 ?_
              refine lv_if_ne (tgt := 78) hx hb dX12_look_64 (by decide) (fun c_9 => ?_) (fun c_9 => ?_)
              · exact absurd c_9 (by decide)
              · refine lv_iload_n hx hb dX12_look_67 rfl (lv_at hl 3 rfl) ?_
                refine lv_iconst (v := 2) hx hb dX12_look_68 (by decide) ?_
                refine lv_icmp_ne (tgt := 76) hx hb dX12_look_69 (by decide) (fun c_10 => ?_) (fun c_10 => ?_)
                · refine lv_iconst (v := 0) hx hb dX12_look_76 (by decide) ?_
                  have hP9 := hP.sub (ws' := []) [] rfl
                  have hD9 := hD.sub (ws' := []) [] (by decide) rfl
                  refine W.widen (k := 1) (n := 6) (Nat.le_of_ble_eq_true rfl) (Nat.le_of_ble_eq_true rfl) ?_
                  refine vx_ret ?_
                  exact W.iret (v := 0) hx hb hr (fun t ht hW => ⟨⟨0, (), rfl, ⟨show _ = xlk 1 w by unfold xlk; rw [if_neg c_1, if_neg (Int32.not_le.mpr c_2), if_neg c_3, if_pos c_4]; rw [if_neg c_10], show xth 1 w = 0 by unfold xth; rw [if_neg c_1, if_neg (Int32.not_le.mpr c_2), if_neg c_3, if_pos c_4]⟩, by rw [ht]; exact hP9, hD9⟩, hS.F ht⟩) hS.2.2 dX12_look_77
                · refine lv_iconst (v := (-1)) hx hb dX12_look_72 (by decide) ?_
                  refine lv_goto (tgt := 77) hx hb dX12_look_73 (by decide) ?_
                  have hP9 := hP.sub (ws' := []) [] rfl
                  have hD9 := hD.sub (ws' := []) [] (by decide) rfl
                  refine W.widen (k := 1) (n := 6) (Nat.le_of_ble_eq_true rfl) (Nat.le_of_ble_eq_true rfl) ?_
                  refine vx_ret ?_
                  exact W.iret (v := (-1)) hx hb hr (fun t ht hW => ⟨⟨(-1), (), rfl, ⟨show _ = xlk 1 w by unfold xlk; rw [if_neg c_1, if_neg (Int32.not_le.mpr c_2), if_neg c_3, if_pos c_4]; rw [if_pos c_10], show xth 1 w = 0 by unfold xth; rw [if_neg c_1, if_neg (Int32.not_le.mpr c_2), if_neg c_3, if_pos c_4]⟩, by rw [ht]; exact hP9, hD9⟩, hS.F ht⟩) hS.2.2 dX12_look_77
            · refine lv_aload_n hx hb dX12_look_55 rfl (lv_at hl 0 rfl) ?_
              refine va_get (D := D) (ci := 3) (v := .int 0) (C := RX3) (T := TX3) (N := 16) hx hb hts iG3 hown hK.1 hP 3 rfl rfl 9 (by decide) (hts _ gw407) (fun _ h9 => h9) rfl dX12_look_56 ?_
              have hP9 := hP.sub (ws' := []) [] rfl
              have hD9 := hD.sub (ws' := []) [] (by decide) rfl
              refine W.widen (k := 1) (n := 6) (Nat.le_of_ble_eq_true rfl) (Nat.le_of_ble_eq_true rfl) ?_
              refine vx_ret ?_
              exact W.iret (v := 0) hx hb hr (fun t ht hW => ⟨⟨0, (), rfl, ⟨show _ = xlk 1 w by unfold xlk; rw [if_neg c_1, if_neg (Int32.not_le.mpr c_2), if_neg c_3, if_pos c_4]; rw [c_8]; rfl, show xth 1 w = 0 by unfold xth; rw [if_neg c_1, if_neg (Int32.not_le.mpr c_2), if_neg c_3, if_pos c_4]⟩, by rw [ht]; exact hP9, hD9⟩, hS.F ht⟩) hS.2.2 dX12_look_59
          · refine va_aldq hx hb hK.1 hP 1 5 rfl rfl (show vp_in 2 8 by unfold vp_in; decide) dX12_look_47 ?_
            refine x_cv (y := .ref (n 43)) rfl ?_
            refine lv_astore_n (lv' := [(3, .ref (n 43)), (0, .ref x), (1, .int 2), (2, .int w)]) hx hb dX12_look_48 rfl hl (by decide) rfl (fun ls hl => ?_)
            refine lv_iload_n hx hb dX12_look_49 rfl (lv_at hl 3 rfl) ?_
            refine lv_bipush (v := 9) hx hb dX12_look_50 (by decide) ?_
            refine lv_icmp_ne (tgt := 60) hx hb dX12_look_52 (by decide) (fun c_11 => ?_) (fun c_11 => ?_)
            · refine lv_aload_n hx hb dX12_look_60 rfl (lv_at hl 0 rfl) ?_
              refine va_get (D := D) (ci := 3) (v := .int 0) (C := RX3) (T := TX3) (N := 16) hx hb hts iG3 hown hK.1 hP 4 rfl rfl 7 (by decide) (hts _ gw403) (fun _ h9 => h9) rfl dX12_look_61 ?_
              refine lv_if_ne (tgt := 78) hx hb dX12_look_64 (by decide) (fun c_12 => ?_) (fun c_12 => ?_)
              · exact absurd c_12 (by decide)
              · refine lv_iload_n hx hb dX12_look_67 rfl (lv_at hl 3 rfl) ?_
                refine lv_iconst (v := 2) hx hb dX12_look_68 (by decide) ?_
                refine lv_icmp_ne (tgt := 76) hx hb dX12_look_69 (by decide) (fun c_13 => ?_) (fun c_13 => ?_)
                · refine lv_iconst (v := 0) hx hb dX12_look_76 (by decide) ?_
                  have hP9 := hP.sub (ws' := []) [] rfl
                  have hD9 := hD.sub (ws' := []) [] (by decide) rfl
                  refine W.widen (k := 1) (n := 6) (Nat.le_of_ble_eq_true rfl) (Nat.le_of_ble_eq_true rfl) ?_
                  refine vx_ret ?_
                  exact W.iret (v := 0) hx hb hr (fun t ht hW => ⟨⟨0, (), rfl, ⟨show _ = xlk 2 w by unfold xlk; rw [if_neg c_1, if_neg (Int32.not_le.mpr c_2), if_neg c_3, if_pos c_4]; rw [if_neg c_13], show xth 2 w = 0 by unfold xth; rw [if_neg c_1, if_neg (Int32.not_le.mpr c_2), if_neg c_3, if_pos c_4]⟩, by rw [ht]; exact hP9, hD9⟩, hS.F ht⟩) hS.2.2 dX12_look_77
                · refine lv_iconst (v := (-1)) hx hb dX12_look_72 (by decide) ?_
                  refine lv_goto (tgt := 77) hx hb dX12_look_73 (by decide) ?_
                  have hP9 := hP.sub (ws' := []) [] rfl
                  have hD9 := hD.sub (ws' := []) [] (by decide) rfl
                  refine W.widen (k := 1) (n := 6) (Nat.le_of_ble_eq_true rfl) (Nat.le_of_ble_eq_true rfl) ?_
                  refine vx_ret ?_
                  exact W.iret (v := (-1)) hx hb hr (fun t ht hW => ⟨⟨(-1), (), rfl, ⟨show _ = xlk 2 w by unfold xlk; rw [if_neg c_1, if_neg (Int32.not_le.mpr c_2), if_neg c_3, if_pos c_4]; rw [if_pos c_13], show xth 2 w = 0 by unfold xth; rw [if_neg c_1, if_neg (Int32.not_le.mpr c_2), if_neg c_3, if_pos c_4]⟩, by rw [ht]; exact hP9, hD9⟩, hS.F ht⟩) hS.2.2 dX12_look_77
            · refine lv_aload_n hx hb dX12_look_55 rfl (lv_at hl 0 rfl) ?_
              refine va_get (D := D) (ci := 3) (v := .int 0) (C := RX3) (T := TX3) (N := 16) hx hb hts iG3 hown hK.1 hP 4 rfl rfl 9 (by decide) (hts _ gw407) (fun _ h9 => h9) rfl dX12_look_56 ?_
              have hP9 := hP.sub (ws' := []) [] rfl
              have hD9 := hD.sub (ws' := []) [] (by decide) rfl
              refine W.widen (k := 1) (n := 6) (Nat.le_of_ble_eq_true rfl) (Nat.le_of_ble_eq_true rfl) ?_
              refine vx_ret ?_
              exact W.iret (v := 0) hx hb hr (fun t ht hW => ⟨⟨0, (), rfl, ⟨show _ = xlk 2 w by unfold xlk; rw [if_neg c_1, if_neg (Int32.not_le.mpr c_2), if_neg c_3, if_pos c_4]; rw [c_11]; rfl, show xth 2 w = 0 by unfold xth; rw [if_neg c_1, if_neg (Int32.not_le.mpr c_2), if_neg c_3, if_pos c_4]⟩, by rw [ht]; exact hP9, hD9⟩, hS.F ht⟩) hS.2.2 dX12_look_59
          · refine va_aldq hx hb hK.1 hP 1 5 rfl rfl (show vp_in 3 8 by unfold vp_in; decide) dX12_look_47 ?_
            refine x_cv (y := .ref (n 61)) rfl ?_
            refine lv_astore_n (lv' := [(3, .ref (n 61)), (0, .ref x), (1, .int 3), (2, .int w)]) hx hb dX12_look_48 rfl hl (by decide) rfl (fun ls hl => ?_)
            refine lv_iload_n hx hb dX12_look_49 rfl (lv_at hl 3 rfl) ?_
            refine lv_bipush (v := 9) hx hb dX12_look_50 (by decide) ?_
            refine lv_icmp_ne (tgt := 60) hx hb dX12_look_52 (by decide) (fun c_14 => ?_) (fun c_14 => ?_)
            · refine lv_aload_n hx hb dX12_look_60 rfl (lv_at hl 0 rfl) ?_
              refine va_get (D := D) (ci := 3) (v := .int 0) (C := RX3) (T := TX3) (N := 16) hx hb hts iG3 hown hK.1 hP 5 rfl rfl 7 (by decide) (hts _ gw403) (fun _ h9 => h9) rfl dX12_look_61 ?_
              refine lv_if_ne (tgt := 78) hx hb dX12_look_64 (by decide) (fun c_15 => ?_) (fun c_15 => ?_)
              · exact absurd c_15 (by decide)
              · refine lv_iload_n hx hb dX12_look_67 rfl (lv_at hl 3 rfl) ?_
                refine lv_iconst (v := 2) hx hb dX12_look_68 (by decide) ?_
                refine lv_icmp_ne (tgt := 76) hx hb dX12_look_69 (by decide) (fun c_16 => ?_) (fun c_16 => ?_)
                · refine lv_iconst (v := 0) hx hb dX12_look_76 (by decide) ?_
                  have hP9 := hP.sub (ws' := []) [] rfl
                  have hD9 := hD.sub (ws' := []) [] (by decide) rfl
                  refine W.widen (k := 1) (n := 6) (Nat.le_of_ble_eq_true rfl) (Nat.le_of_ble_eq_true rfl) ?_
                  refine vx_ret ?_
                  exact W.iret (v := 0) hx hb hr (fun t ht hW => ⟨⟨0, (), rfl, ⟨show _ = xlk 3 w by unfold xlk; rw [if_neg c_1, if_neg (Int32.not_le.mpr c_2), if_neg c_3, if_pos c_4]; rw [if_neg c_16], show xth 3 w = 0 by unfold xth; rw [if_neg c_1, if_neg (Int32.not_le.mpr c_2), if_neg c_3, if_pos c_4]⟩, by rw [ht]; exact hP9, hD9⟩, hS.F ht⟩) hS.2.2 dX12_look_77
                · refine lv_iconst (v := (-1)) hx hb dX12_look_72 (by decide) ?_
                  refine lv_goto (tgt := 77) hx hb dX12_look_73 (by decide) ?_
                  have hP9 := hP.sub (ws' := []) [] rfl
                  have hD9 := hD.sub (ws' := []) [] (by decide) rfl
                  refine W.widen (k := 1) (n := 6) (Nat.le_of_ble_eq_true rfl) (Nat.le_of_ble_eq_true rfl) ?_
                  refine vx_ret ?_
                  exact W.iret (v := (-1)) hx hb hr (fun t ht hW => ⟨⟨(-1), (), rfl, ⟨show _ = xlk 3 w by unfold xlk; rw [if_neg c_1, if_neg (Int32.not_le.mpr c_2), if_neg c_3, if_pos c_4]; rw [if_pos c_16], show xth 3 w = 0 by unfold xth; rw [if_neg c_1, if_neg (Int32.not_le.mpr c_2), if_neg c_3, if_pos c_4]⟩, by rw [ht]; exact hP9, hD9⟩, hS.F ht⟩) hS.2.2 dX12_look_77
            · refine lv_aload_n hx hb dX12_look_55 rfl (lv_at hl 0 rfl) ?_
              refine va_get (D := D) (ci := 3) (v := .int 0) (C := RX3) (T := TX3) (N := 16) hx hb hts iG3 hown hK.1 hP 5 rfl rfl 9 (by decide) (hts _ gw407) (fun _ h9 => h9) rfl dX12_look_56 ?_
              have hP9 := hP.sub (ws' := []) [] rfl
              have hD9 := hD.sub (ws' := []) [] (by decide) rfl
              refine W.widen (k := 1) (n := 6) (Nat.le_of_ble_eq_true rfl) (Nat.le_of_ble_eq_true rfl) ?_
              refine vx_ret ?_
              exact W.iret (v := 0) hx hb hr (fun t ht hW => ⟨⟨0, (), rfl, ⟨show _ = xlk 3 w by unfold xlk; rw [if_neg c_1, if_neg (Int32.not_le.mpr c_2), if_neg c_3, if_pos c_4]; rw [c_14]; rfl, show xth 3 w = 0 by unfold xth; rw [if_neg c_1, if_neg (Int32.not_le.mpr c_2), if_neg c_3, if_pos c_4]⟩, by rw [ht]; exact hP9, hD9⟩, hS.F ht⟩) hS.2.2 dX12_look_59
          · refine va_aldq hx hb hK.1 hP 1 5 rfl rfl (show vp_in 4 8 by unfold vp_in; decide) dX12_look_47 ?_
            refine x_cv (y := .ref (n 79)) rfl ?_
            refine lv_astore_n (lv' := [(3, .ref (n 79)), (0, .ref x), (1, .int 4), (2, .int w)]) hx hb dX12_look_48 rfl hl (by decide) rfl (fun ls hl => ?_)
            refine lv_iload_n hx hb dX12_look_49 rfl (lv_at hl 3 rfl) ?_
            refine lv_bipush (v := 9) hx hb dX12_look_50 (by decide) ?_
            refine lv_icmp_ne (tgt := 60) hx hb dX12_look_52 (by decide) (fun c_17 => ?_) (fun c_17 => ?_)
            · refine lv_aload_n hx hb dX12_look_60 rfl (lv_at hl 0 rfl) ?_
              refine va_get (D := D) (ci := 3) (v := .int 0) (C := RX3) (T := TX3) (N := 16) hx hb hts iG3 hown hK.1 hP 6 rfl rfl 7 (by decide) (hts _ gw403) (fun _ h9 => h9) rfl dX12_look_61 ?_
              refine lv_if_ne (tgt := 78) hx hb dX12_look_64 (by decide) (fun c_18 => ?_) (fun c_18 => ?_)
              · exact absurd c_18 (by decide)
              · refine lv_iload_n hx hb dX12_look_67 rfl (lv_at hl 3 rfl) ?_
                refine lv_iconst (v := 2) hx hb dX12_look_68 (by decide) ?_
                refine lv_icmp_ne (tgt := 76) hx hb dX12_look_69 (by decide) (fun c_19 => ?_) (fun c_19 => ?_)
                · refine lv_iconst (v := 0) hx hb dX12_look_76 (by decide) ?_
                  have hP9 := hP.sub (ws' := []) [] rfl
                  have hD9 := hD.sub (ws' := []) [] (by decide) rfl
                  refine W.widen (k := 1) (n := 6) (Nat.le_of_ble_eq_true rfl) (Nat.le_of_ble_eq_true rfl) ?_
                  refine vx_ret ?_
                  exact W.iret (v := 0) hx hb hr (fun t ht hW => ⟨⟨0, (), rfl, ⟨show _ = xlk 4 w by unfold xlk; rw [if_neg c_1, if_neg (Int32.not_le.mpr c_2), if_neg c_3, if_pos c_4]; rw [if_neg c_19], show xth 4 w = 0 by unfold xth; rw [if_neg c_1, if_neg (Int32.not_le.mpr c_2), if_neg c_3, if_pos c_4]⟩, by rw [ht]; exact hP9, hD9⟩, hS.F ht⟩) hS.2.2 dX12_look_77
                · refine lv_iconst (v := (-1)) hx hb dX12_look_72 (by decide) ?_
                  refine lv_goto (tgt := 77) hx hb dX12_look_73 (by decide) ?_
                  have hP9 := hP.sub (ws' := []) [] rfl
                  have hD9 := hD.sub (ws' := []) [] (by decide) rfl
                  refine W.widen (k := 1) (n := 6) (Nat.le_of_ble_eq_true rfl) (Nat.le_of_ble_eq_true rfl) ?_
                  refine vx_ret ?_
                  exact W.iret (v := (-1)) hx hb hr (fun t ht hW => ⟨⟨(-1), (), rfl, ⟨show _ = xlk 4 w by unfold xlk; rw [if_neg c_1, if_neg (Int32.not_le.mpr c_2), if_neg c_3, if_pos c_4]; rw [if_pos c_19], show xth 4 w = 0 by unfold xth; rw [if_neg c_1, if_neg (Int32.not_le.mpr c_2), if_neg c_3, if_pos c_4]⟩, by rw [ht]; exact hP9, hD9⟩, hS.F ht⟩) hS.2.2 dX12_look_77
            · refine lv_aload_n hx hb dX12_look_55 rfl (lv_at hl 0 rfl) ?_
              refine va_get (D := D) (ci := 3) (v := .int 0) (C := RX3) (T := TX3) (N := 16) hx hb hts iG3 hown hK.1 hP 6 rfl rfl 9 (by decide) (hts _ gw407) (fun _ h9 => h9) rfl dX12_look_56 ?_
              have hP9 := hP.sub (ws' := []) [] rfl
              have hD9 := hD.sub (ws' := []) [] (by decide) rfl
              refine W.widen (k := 1) (n := 6) (Nat.le_of_ble_eq_true rfl) (Nat.le_of_ble_eq_true rfl) ?_
              refine vx_ret ?_
              exact W.iret (v := 0) hx hb hr (fun t ht hW => ⟨⟨0, (), rfl, ⟨show _ = xlk 4 w by unfold xlk; rw [if_neg c_1, if_neg (Int32.not_le.mpr c_2), if_neg c_3, if_pos c_4]; rw [c_17]; rfl, show xth 4 w = 0 by unfold xth; rw [if_neg c_1, if_neg (Int32.not_le.mpr c_2), if_neg c_3, if_pos c_4]⟩, by rw [ht]; exact hP9, hD9⟩, hS.F ht⟩) hS.2.2 dX12_look_59
          · refine va_aldq hx hb hK.1 hP 1 5 rfl rfl (show vp_in 5 8 by unfold vp_in; decide) dX12_look_47 ?_
            refine x_cv (y := .ref (n 97)) rfl ?_
            refine lv_astore_n (lv' := [(3, .ref (n 97)), (0, .ref x), (1, .int 5), (2, .int w)]) hx hb dX12_look_48 rfl hl (by decide) rfl (fun ls hl => ?_)
            refine lv_iload_n hx hb dX12_look_49 rfl (lv_at hl 3 rfl) ?_
            refine lv_bipush (v := 9) hx hb dX12_look_50 (by decide) ?_
            refine lv_icmp_ne (tgt := 60) hx hb dX12_look_52 (by decide) (fun c_20 => ?_) (fun c_20 => ?_)
            · refine lv_aload_n hx hb dX12_look_60 rfl (lv_at hl 0 rfl) ?_
              refine va_get (D := D) (ci := 3) (v := .int 0) (C := RX3) (T := TX3) (N := 16) hx hb hts iG3 hown hK.1 hP 7 rfl rfl 7 (by decide) (hts _ gw403) (fun _ h9 => h9) rfl dX12_look_61 ?_
              refine lv_if_ne (tgt := 78) hx hb dX12_look_64 (by decide) (fun c_21 => ?_) (fun c_21 => ?_)
              · exact absurd c_21 (by decide)
              · refine lv_iload_n hx hb dX12_look_67 rfl (lv_at hl 3 rfl) ?_
                refine lv_iconst (v := 2) hx hb dX12_look_68 (by decide) ?_
                refine lv_icmp_ne (tgt := 76) hx hb dX12_look_69 (by decide) (fun c_22 => ?_) (fun c_22 => ?_)
                · refine lv_iconst (v := 0) hx hb dX12_look_76 (by decide) ?_
                  have hP9 := hP.sub (ws' := []) [] rfl
                  have hD9 := hD.sub (ws' := []) [] (by decide) rfl
                  refine W.widen (k := 1) (n := 6) (Nat.le_of_ble_eq_true rfl) (Nat.le_of_ble_eq_true rfl) ?_
                  refine vx_ret ?_
                  exact W.iret (v := 0) hx hb hr (fun t ht hW => ⟨⟨0, (), rfl, ⟨show _ = xlk 5 w by unfold xlk; rw [if_neg c_1, if_neg (Int32.not_le.mpr c_2), if_neg c_3, if_pos c_4]; rw [if_neg c_22], show xth 5 w = 0 by unfold xth; rw [if_neg c_1, if_neg (Int32.not_le.mpr c_2), if_neg c_3, if_pos c_4]⟩, by rw [ht]; exact hP9, hD9⟩, hS.F ht⟩) hS.2.2 dX12_look_77
                · refine lv_iconst (v := (-1)) hx hb dX12_look_72 (by decide) ?_
                  refine lv_goto (tgt := 77) hx hb dX12_look_73 (by decide) ?_
                  have hP9 := hP.sub (ws' := []) [] rfl
                  have hD9 := hD.sub (ws' := []) [] (by decide) rfl
                  refine W.widen (k := 1) (n := 6) (Nat.le_of_ble_eq_true rfl) (Nat.le_of_ble_eq_true rfl) ?_
                  refine vx_ret ?_
                  exact W.iret (v := (-1)) hx hb hr (fun t ht hW => ⟨⟨(-1), (), rfl, ⟨show _ = xlk 5 w by unfold xlk; rw [if_neg c_1, if_neg (Int32.not_le.mpr c_2), if_neg c_3, if_pos c_4]; rw [if_pos c_22], show xth 5 w = 0 by unfold xth; rw [if_neg c_1, if_neg (Int32.not_le.mpr c_2), if_neg c_3, if_pos c_4]⟩, by rw [ht]; exact hP9, hD9⟩, hS.F ht⟩) hS.2.2 dX12_look_77
            · refine lv_aload_n hx hb dX12_look_55 rfl (lv_at hl 0 rfl) ?_
              refine va_get (D := D) (ci := 3) (v := .int 0) (C := RX3) (T := TX3) (N := 16) hx hb hts iG3 hown hK.1 hP 7 rfl rfl 9 (by decide) (hts _ gw407) (fun _ h9 => h9) rfl dX12_look_56 ?_
              have hP9 := hP.sub (ws' := []) [] rfl
              have hD9 := hD.sub (ws' := []) [] (by decide) rfl
              refine W.widen (k := 1) (n := 6) (Nat.le_of_ble_eq_true rfl) (Nat.le_of_ble_eq_true rfl) ?_
              refine vx_ret ?_
              exact W.iret (v := 0) hx hb hr (fun t ht hW => ⟨⟨0, (), rfl, ⟨show _ = xlk 5 w by unfold xlk; rw [if_neg c_1, if_neg (Int32.not_le.mpr c_2), if_neg c_3, if_pos c_4]; rw [c_20]; rfl, show xth 5 w = 0 by unfold xth; rw [if_neg c_1, if_neg (Int32.not_le.mpr c_2), if_neg c_3, if_pos c_4]⟩, by rw [ht]; exact hP9, hD9⟩, hS.F ht⟩) hS.2.2 dX12_look_59
          · refine va_aldq hx hb hK.1 hP 1 5 rfl rfl (show vp_in 6 8 by unfold vp_in; decide) dX12_look_47 ?_
            refine x_cv (y := .ref (n 115)) rfl ?_
            refine lv_astore_n (lv' := [(3, .ref (n 115)), (0, .ref x), (1, .int 6), (2, .int w)]) hx hb dX12_look_48 rfl hl (by decide) rfl (fun ls hl => ?_)
            refine lv_iload_n hx hb dX12_look_49 rfl (lv_at hl 3 rfl) ?_
            refine lv_bipush (v := 9) hx hb dX12_look_50 (by decide) ?_
            refine lv_icmp_ne (tgt := 60) hx hb dX12_look_52 (by decide) (fun c_23 => ?_) (fun c_23 => ?_)
            · refine lv_aload_n hx hb dX12_look_60 rfl (lv_at hl 0 rfl) ?_
              refine va_get (D := D) (ci := 3) (v := .int 0) (C := RX3) (T := TX3) (N := 16) hx hb hts iG3 hown hK.1 hP 8 rfl rfl 7 (by decide) (hts _ gw403) (fun _ h9 => h9) rfl dX12_look_61 ?_
              refine lv_if_ne (tgt := 78) hx hb dX12_look_64 (by decide) (fun c_24 => ?_) (fun c_24 => ?_)
              · exact absurd c_24 (by decide)
              · refine lv_iload_n hx hb dX12_look_67 rfl (lv_at hl 3 rfl) ?_
                refine lv_iconst (v := 2) hx hb dX12_look_68 (by decide) ?_
                refine lv_icmp_ne (tgt := 76) hx hb dX12_look_69 (by decide) (fun c_25 => ?_) (fun c_25 => ?_)
                · refine lv_iconst (v := 0) hx hb dX12_look_76 (by decide) ?_
                  have hP9 := hP.sub (ws' := []) [] rfl
                  have hD9 := hD.sub (ws' := []) [] (by decide) rfl
                  refine W.widen (k := 1) (n := 6) (Nat.le_of_ble_eq_true rfl) (Nat.le_of_ble_eq_true rfl) ?_
                  refine vx_ret ?_
                  exact W.iret (v := 0) hx hb hr (fun t ht hW => ⟨⟨0, (), rfl, ⟨show _ = xlk 6 w by unfold xlk; rw [if_neg c_1, if_neg (Int32.not_le.mpr c_2), if_neg c_3, if_pos c_4]; rw [if_neg c_25], show xth 6 w = 0 by unfold xth; rw [if_neg c_1, if_neg (Int32.not_le.mpr c_2), if_neg c_3, if_pos c_4]⟩, by rw [ht]; exact hP9, hD9⟩, hS.F ht⟩) hS.2.2 dX12_look_77
                · refine lv_iconst (v := (-1)) hx hb dX12_look_72 (by decide) ?_
                  refine lv_goto (tgt := 77) hx hb dX12_look_73 (by decide) ?_
                  have hP9 := hP.sub (ws' := []) [] rfl
                  have hD9 := hD.sub (ws' := []) [] (by decide) rfl
                  refine W.widen (k := 1) (n := 6) (Nat.le_of_ble_eq_true rfl) (Nat.le_of_ble_eq_true rfl) ?_
                  refine vx_ret ?_
                  exact W.iret (v := (-1)) hx hb hr (fun t ht hW => ⟨⟨(-1), (), rfl, ⟨show _ = xlk 6 w by unfold xlk; rw [if_neg c_1, if_neg (Int32.not_le.mpr c_2), if_neg c_3, if_pos c_4]; rw [if_pos c_25], show xth 6 w = 0 by unfold xth; rw [if_neg c_1, if_neg (Int32.not_le.mpr c_2), if_neg c_3, if_pos c_4]⟩, by rw [ht]; exact hP9, hD9⟩, hS.F ht⟩) hS.2.2 dX12_look_77
            · refine lv_aload_n hx hb dX12_look_55 rfl (lv_at hl 0 rfl) ?_
              refine va_get (D := D) (ci := 3) (v := .int 0) (C := RX3) (T := TX3) (N := 16) hx hb hts iG3 hown hK.1 hP 8 rfl rfl 9 (by decide) (hts _ gw407) (fun _ h9 => h9) rfl dX12_look_56 ?_
              have hP9 := hP.sub (ws' := []) [] rfl
              have hD9 := hD.sub (ws' := []) [] (by decide) rfl
              refine W.widen (k := 1) (n := 6) (Nat.le_of_ble_eq_true rfl) (Nat.le_of_ble_eq_true rfl) ?_
              refine vx_ret ?_
              exact W.iret (v := 0) hx hb hr (fun t ht hW => ⟨⟨0, (), rfl, ⟨show _ = xlk 6 w by unfold xlk; rw [if_neg c_1, if_neg (Int32.not_le.mpr c_2), if_neg c_3, if_pos c_4]; rw [c_23]; rfl, show xth 6 w = 0 by unfold xth; rw [if_neg c_1, if_neg (Int32.not_le.mpr c_2), if_neg c_3, if_pos c_4]⟩, by rw [ht]; exact hP9, hD9⟩, hS.F ht⟩) hS.2.2 dX12_look_59
          · refine va_aldq hx hb hK.1 hP 1 5 rfl rfl (show vp_in 7 8 by unfold vp_in; decide) dX12_look_47 ?_
            refine x_cv (y := .ref (n 133)) rfl ?_
            refine lv_astore_n (lv' := [(3, .ref (n 133)), (0, .ref x), (1, .int 7), (2, .int w)]) hx hb dX12_look_48 rfl hl (by decide) rfl (fun ls hl => ?_)
            refine lv_iload_n hx hb dX12_look_49 rfl (lv_at hl 3 rfl) ?_
            refine lv_bipush (v := 9) hx hb dX12_look_50 (by decide) ?_
            refine lv_icmp_ne (tgt := 60) hx hb dX12_look_52 (by decide) (fun c_26 => ?_) (fun c_26 => ?_)
            · refine lv_aload_n hx hb dX12_look_60 rfl (lv_at hl 0 rfl) ?_
              refine va_get (D := D) (ci := 3) (v := .int 0) (C := RX3) (T := TX3) (N := 16) hx hb hts iG3 hown hK.1 hP 9 rfl rfl 7 (by decide) (hts _ gw403) (fun _ h9 => h9) rfl dX12_look_61 ?_
              refine lv_if_ne (tgt := 78) hx hb dX12_look_64 (by decide) (fun c_27 => ?_) (fun c_27 => ?_)
              · exact absurd c_27 (by decide)
              · refine lv_iload_n hx hb dX12_look_67 rfl (lv_at hl 3 rfl) ?_
                refine lv_iconst (v := 2) hx hb dX12_look_68 (by decide) ?_
                refine lv_icmp_ne (tgt := 76) hx hb dX12_look_69 (by decide) (fun c_28 => ?_) (fun c_28 => ?_)
                · refine lv_iconst (v := 0) hx hb dX12_look_76 (by decide) ?_
                  have hP9 := hP.sub (ws' := []) [] rfl
                  have hD9 := hD.sub (ws' := []) [] (by decide) rfl
                  refine W.widen (k := 1) (n := 6) (Nat.le_of_ble_eq_true rfl) (Nat.le_of_ble_eq_true rfl) ?_
                  refine vx_ret ?_
                  exact W.iret (v := 0) hx hb hr (fun t ht hW => ⟨⟨0, (), rfl, ⟨show _ = xlk 7 w by unfold xlk; rw [if_neg c_1, if_neg (Int32.not_le.mpr c_2), if_neg c_3, if_pos c_4]; rw [if_neg c_28], show xth 7 w = 0 by unfold xth; rw [if_neg c_1, if_neg (Int32.not_le.mpr c_2), if_neg c_3, if_pos c_4]⟩, by rw [ht]; exact hP9, hD9⟩, hS.F ht⟩) hS.2.2 dX12_look_77
                · refine lv_iconst (v := (-1)) hx hb dX12_look_72 (by decide) ?_
                  refine lv_goto (tgt := 77) hx hb dX12_look_73 (by decide) ?_
                  have hP9 := hP.sub (ws' := []) [] rfl
                  have hD9 := hD.sub (ws' := []) [] (by decide) rfl
                  refine W.widen (k := 1) (n := 6) (Nat.le_of_ble_eq_true rfl) (Nat.le_of_ble_eq_true rfl) ?_
                  refine vx_ret ?_
                  exact W.iret (v := (-1)) hx hb hr (fun t ht hW => ⟨⟨(-1), (), rfl, ⟨show _ = xlk 7 w by unfold xlk; rw [if_neg c_1, if_neg (Int32.not_le.mpr c_2), if_neg c_3, if_pos c_4]; rw [if_pos c_28], show xth 7 w = 0 by unfold xth; rw [if_neg c_1, if_neg (Int32.not_le.mpr c_2), if_neg c_3, if_pos c_4]⟩, by rw [ht]; exact hP9, hD9⟩, hS.F ht⟩) hS.2.2 dX12_look_77
            · refine lv_aload_n hx hb dX12_look_55 rfl (lv_at hl 0 rfl) ?_
              refine va_get (D := D) (ci := 3) (v := .int 0) (C := RX3) (T := TX3) (N := 16) hx hb hts iG3 hown hK.1 hP 9 rfl rfl 9 (by decide) (hts _ gw407) (fun _ h9 => h9) rfl dX12_look_56 ?_
              have hP9 := hP.sub (ws' := []) [] rfl
              have hD9 := hD.sub (ws' := []) [] (by decide) rfl
              refine W.widen (k := 1) (n := 6) (Nat.le_of_ble_eq_true rfl) (Nat.le_of_ble_eq_true rfl) ?_
              refine vx_ret ?_
              exact W.iret (v := 0) hx hb hr (fun t ht hW => ⟨⟨0, (), rfl, ⟨show _ = xlk 7 w by unfold xlk; rw [if_neg c_1, if_neg (Int32.not_le.mpr c_2), if_neg c_3, if_pos c_4]; rw [c_26]; rfl, show xth 7 w = 0 by unfold xth; rw [if_neg c_1, if_neg (Int32.not_le.mpr c_2), if_neg c_3, if_pos c_4]⟩, by rw [ht]; exact hP9, hD9⟩, hS.F ht⟩) hS.2.2 dX12_look_59
        · exact xt_throw (A := fun _ => False) (ix := 13) (rx := xb13) hx hb hlt (by decide +kernel) (by decide +kernel) (by decide +kernel) (by decide +kernel) hown (by decide +kernel) (by decide +kernel) (hts _ gw1090) (hts _ gw20) hT.2.2.1.2 (xhat1 hts hT) (by decide +kernel) hT.2.2.2.1 hT.2.2.2.2 va_S.rf (by rw [hml]; exact hl.1) dX12_look_31 dX12_look_34 dX12_look_35 dX12_look_38 dX12_look_41 (fun x hx9 => (hxt x hx9).elim) (Nat.le_of_ble_eq_true rfl) (Nat.le_of_ble_eq_true rfl) (Nat.le_of_ble_eq_true rfl) (Nat.le_of_ble_eq_true rfl) hlocks (fun t h1 h2 h3 => ⟨(), trivial, Or.inr ⟨rfl, by unfold xth; rw [if_neg c_1, if_neg (Int32.not_le.mpr c_2), if_neg c_3, if_neg c_4]⟩, ⟨h2, fun q hq _ => h3 q hq⟩⟩) (fun z hz => nomatch hz) (by decide) (by decide)
    · exact vx_throwSW (A := fun _ => False) hx hb hlt hown (by decide +kernel) (by decide +kernel) (hts _ gw1024) (hts _ gw19) hT.2.2.1.1 (xhat0 hts hT) (by decide +kernel) hT.2.2.2.1 hT.2.2.2.2 va_S.rf (by rw [hml]; exact hl.1) dX12_look_10 dX12_look_13 dX12_look_14 dX12_look_17 dX12_look_20 (fun x hx9 => (hxt x hx9).elim) (Nat.le_of_ble_eq_true rfl) (Nat.le_of_ble_eq_true rfl) (Nat.le_of_ble_eq_true rfl) (Nat.le_of_ble_eq_true rfl) hlocks (fun t h1 h2 h3 => ⟨(), trivial, Or.inl ⟨rfl, by unfold xth; rw [if_neg c_1, if_pos (Int32.not_lt.mp c_2)]⟩, ⟨h2, fun q hq _ => h3 q hq⟩⟩) (fun z hz => nomatch hz) (by decide) (by decide)
set_option maxHeartbeats 4000000 in
set_option maxRecDepth 100000 in
theorem c_Llook (l : Launch) (hlt : l.stackTraces = false) (D : va_G) (cy : Nat → ClassId) (x : Nat) (n : Nat → Nat) (qo : Nat) (h w : Int32) (a1 a2 : Nat) (sz : Nat) : vx_Met l yL_look (Cond.codeWith yL_look cL_look 5 (some .int) [(0, 10, 13, 13), (0, 10, 17, 15)] :: xG) ({ frames := 7, cells := 1, slots := 6, locals := 110 } : Room) (va_Pc [.ref x, .int h, .int w, .ref qo] (fun U => xPre D cy sz [(x, .inr (12, [.ref (n 0), .ref (n 1), .ref (n 4), .ref (n 5), .ref (n 6), .int 0, .int 0, .null, .long (-1), .long 0])), (n 0, .inl (cy 5, 8, .inr (.inr (.inr (.inr (xa [some (n 7), some (n 25), some (n 43), some (n 61), some (n 79), some (n 97), some (n 115), some (n 133)])))))), (n 7, .inr (3, [.int 0, .ref (n 8), .ref (n 9), .ref (n 10), .ref (n 11), .ref (n 12), .ref (n 13), .int 0, .int 0, .int 0, .int 0, .int 0, .int 0, .int 0, .int 0, .int 0])), (n 25, .inr (3, [.int 1, .ref (n 26), .ref (n 27), .ref (n 28), .ref (n 29), .ref (n 30), .ref (n 31), .int 0, .int 0, .int 0, .int 0, .int 0, .int 0, .int 0, .int 0, .int 0])), (n 43, .inr (3, [.int 2, .ref (n 44), .ref (n 45), .ref (n 46), .ref (n 47), .ref (n 48), .ref (n 49), .int 0, .int 0, .int 0, .int 0, .int 0, .int 0, .int 0, .int 0, .int 0])), (n 61, .inr (3, [.int 3, .ref (n 62), .ref (n 63), .ref (n 64), .ref (n 65), .ref (n 66), .ref (n 67), .int 0, .int 0, .int 0, .int 0, .int 0, .int 0, .int 0, .int 0, .int 0])), (n 79, .inr (3, [.int 4, .ref (n 80), .ref (n 81), .ref (n 82), .ref (n 83), .ref (n 84), .ref (n 85), .int 0, .int 0, .int 0, .int 0, .int 0, .int 0, .int 0, .int 0, .int 0])), (n 97, .inr (3, [.int 5, .ref (n 98), .ref (n 99), .ref (n 100), .ref (n 101), .ref (n 102), .ref (n 103), .int 0, .int 0, .int 0, .int 0, .int 0, .int 0, .int 0, .int 0, .int 0])), (n 115, .inr (3, [.int 6, .ref (n 116), .ref (n 117), .ref (n 118), .ref (n 119), .ref (n 120), .ref (n 121), .int 0, .int 0, .int 0, .int 0, .int 0, .int 0, .int 0, .int 0, .int 0])), (n 133, .inr (3, [.int 7, .ref (n 134), .ref (n 135), .ref (n 136), .ref (n 137), .ref (n 138), .ref (n 139), .int 0, .int 0, .int 0, .int 0, .int 0, .int 0, .int 0, .int 0, .int 0])), (qo, .inl (cy 2, 1, .inr (.inl (fun _ => 0))))] U ∧ xKt (fun _ => False) a1 a2 U)) (va_Qi (fun r (f : Nat → Int64) => r = xth h w ∧ (r = 0 → f 0 = (xlk h w).toInt64)) (xB D (va_A [(x, .inr (12, [.ref (n 0), .ref (n 1), .ref (n 4), .ref (n 5), .ref (n 6), .int 0, .int 0, .null, .long (-1), .long 0])), (n 0, .inl (cy 5, 8, .inr (.inr (.inr (.inr (xa [some (n 7), some (n 25), some (n 43), some (n 61), some (n 79), some (n 97), some (n 115), some (n 133)])))))), (n 7, .inr (3, [.int 0, .ref (n 8), .ref (n 9), .ref (n 10), .ref (n 11), .ref (n 12), .ref (n 13), .int 0, .int 0, .int 0, .int 0, .int 0, .int 0, .int 0, .int 0, .int 0])), (n 25, .inr (3, [.int 1, .ref (n 26), .ref (n 27), .ref (n 28), .ref (n 29), .ref (n 30), .ref (n 31), .int 0, .int 0, .int 0, .int 0, .int 0, .int 0, .int 0, .int 0, .int 0])), (n 43, .inr (3, [.int 2, .ref (n 44), .ref (n 45), .ref (n 46), .ref (n 47), .ref (n 48), .ref (n 49), .int 0, .int 0, .int 0, .int 0, .int 0, .int 0, .int 0, .int 0, .int 0])), (n 61, .inr (3, [.int 3, .ref (n 62), .ref (n 63), .ref (n 64), .ref (n 65), .ref (n 66), .ref (n 67), .int 0, .int 0, .int 0, .int 0, .int 0, .int 0, .int 0, .int 0, .int 0])), (n 79, .inr (3, [.int 4, .ref (n 80), .ref (n 81), .ref (n 82), .ref (n 83), .ref (n 84), .ref (n 85), .int 0, .int 0, .int 0, .int 0, .int 0, .int 0, .int 0, .int 0, .int 0])), (n 97, .inr (3, [.int 5, .ref (n 98), .ref (n 99), .ref (n 100), .ref (n 101), .ref (n 102), .ref (n 103), .int 0, .int 0, .int 0, .int 0, .int 0, .int 0, .int 0, .int 0, .int 0])), (n 115, .inr (3, [.int 6, .ref (n 116), .ref (n 117), .ref (n 118), .ref (n 119), .ref (n 120), .ref (n 121), .int 0, .int 0, .int 0, .int 0, .int 0, .int 0, .int 0, .int 0, .int 0])), (n 133, .inr (3, [.int 7, .ref (n 134), .ref (n 135), .ref (n 136), .ref (n 137), .ref (n 138), .ref (n 139), .int 0, .int 0, .int 0, .int 0, .int 0, .int 0, .int 0, .int 0, .int 0])), (qo, .inl (cy 2, 1, .inr (.inl (fun _ => 0))))] sz) (fun f => [(qo, .inl (cy 2, 1, .inr (.inl f)))])) (va_A [(x, .inr (12, [.ref (n 0), .ref (n 1), .ref (n 4), .ref (n 5), .ref (n 6), .int 0, .int 0, .null, .long (-1), .long 0])), (n 0, .inl (cy 5, 8, .inr (.inr (.inr (.inr (xa [some (n 7), some (n 25), some (n 43), some (n 61), some (n 79), some (n 97), some (n 115), some (n 133)])))))), (n 7, .inr (3, [.int 0, .ref (n 8), .ref (n 9), .ref (n 10), .ref (n 11), .ref (n 12), .ref (n 13), .int 0, .int 0, .int 0, .int 0, .int 0, .int 0, .int 0, .int 0, .int 0])), (n 25, .inr (3, [.int 1, .ref (n 26), .ref (n 27), .ref (n 28), .ref (n 29), .ref (n 30), .ref (n 31), .int 0, .int 0, .int 0, .int 0, .int 0, .int 0, .int 0, .int 0, .int 0])), (n 43, .inr (3, [.int 2, .ref (n 44), .ref (n 45), .ref (n 46), .ref (n 47), .ref (n 48), .ref (n 49), .int 0, .int 0, .int 0, .int 0, .int 0, .int 0, .int 0, .int 0, .int 0])), (n 61, .inr (3, [.int 3, .ref (n 62), .ref (n 63), .ref (n 64), .ref (n 65), .ref (n 66), .ref (n 67), .int 0, .int 0, .int 0, .int 0, .int 0, .int 0, .int 0, .int 0, .int 0])), (n 79, .inr (3, [.int 4, .ref (n 80), .ref (n 81), .ref (n 82), .ref (n 83), .ref (n 84), .ref (n 85), .int 0, .int 0, .int 0, .int 0, .int 0, .int 0, .int 0, .int 0, .int 0])), (n 97, .inr (3, [.int 5, .ref (n 98), .ref (n 99), .ref (n 100), .ref (n 101), .ref (n 102), .ref (n 103), .int 0, .int 0, .int 0, .int 0, .int 0, .int 0, .int 0, .int 0, .int 0])), (n 115, .inr (3, [.int 6, .ref (n 116), .ref (n 117), .ref (n 118), .ref (n 119), .ref (n 120), .ref (n 121), .int 0, .int 0, .int 0, .int 0, .int 0, .int 0, .int 0, .int 0, .int 0])), (n 133, .inr (3, [.int 7, .ref (n 134), .ref (n 135), .ref (n 136), .ref (n 137), .ref (n 138), .ref (n 139), .int 0, .int 0, .int 0, .int 0, .int 0, .int 0, .int 0, .int 0, .int 0])), (qo, .inl (cy 2, 1, .inr (.inl (fun _ => 0))))] sz)) (vx_X (fun _ : Unit => True) (fun _ _ _ => False) (fun _ => False)) 1 6 (va_A [(x, .inr (12, [.ref (n 0), .ref (n 1), .ref (n 4), .ref (n 5), .ref (n 6), .int 0, .int 0, .null, .long (-1), .long 0])), (n 0, .inl (cy 5, 8, .inr (.inr (.inr (.inr (xa [some (n 7), some (n 25), some (n 43), some (n 61), some (n 79), some (n 97), some (n 115), some (n 133)])))))), (n 7, .inr (3, [.int 0, .ref (n 8), .ref (n 9), .ref (n 10), .ref (n 11), .ref (n 12), .ref (n 13), .int 0, .int 0, .int 0, .int 0, .int 0, .int 0, .int 0, .int 0, .int 0])), (n 25, .inr (3, [.int 1, .ref (n 26), .ref (n 27), .ref (n 28), .ref (n 29), .ref (n 30), .ref (n 31), .int 0, .int 0, .int 0, .int 0, .int 0, .int 0, .int 0, .int 0, .int 0])), (n 43, .inr (3, [.int 2, .ref (n 44), .ref (n 45), .ref (n 46), .ref (n 47), .ref (n 48), .ref (n 49), .int 0, .int 0, .int 0, .int 0, .int 0, .int 0, .int 0, .int 0, .int 0])), (n 61, .inr (3, [.int 3, .ref (n 62), .ref (n 63), .ref (n 64), .ref (n 65), .ref (n 66), .ref (n 67), .int 0, .int 0, .int 0, .int 0, .int 0, .int 0, .int 0, .int 0, .int 0])), (n 79, .inr (3, [.int 4, .ref (n 80), .ref (n 81), .ref (n 82), .ref (n 83), .ref (n 84), .ref (n 85), .int 0, .int 0, .int 0, .int 0, .int 0, .int 0, .int 0, .int 0, .int 0])), (n 97, .inr (3, [.int 5, .ref (n 98), .ref (n 99), .ref (n 100), .ref (n 101), .ref (n 102), .ref (n 103), .int 0, .int 0, .int 0, .int 0, .int 0, .int 0, .int 0, .int 0, .int 0])), (n 115, .inr (3, [.int 6, .ref (n 116), .ref (n 117), .ref (n 118), .ref (n 119), .ref (n 120), .ref (n 121), .int 0, .int 0, .int 0, .int 0, .int 0, .int 0, .int 0, .int 0, .int 0])), (n 133, .inr (3, [.int 7, .ref (n 134), .ref (n 135), .ref (n 136), .ref (n 137), .ref (n 138), .ref (n 139), .int 0, .int 0, .int 0, .int 0, .int 0, .int 0, .int 0, .int 0, .int 0])), (qo, .inl (cy 2, 1, .inr (.inl (fun _ => 0))))] sz) := by
  refine vx_ofWH (cc := cL_look) (maxL := 5) (ret := some .int) (hh := [(0, 10, 13, 13), (0, 10, 17, 15)]) (by decide) rfl ?_
  intro p e s m args below meth c s₁ B hml hv
  obtain ⟨rfl, ⟨hsz, hP, hK, hD0⟩, hT⟩ := hv
  have hx := B.exec
  have hb := B.bytes
  have hr := B.returns
  have hts0 := atoms_spec (ws := Cond.codeWith yL_look cL_look 5 (some .int) [(0, 10, 13, 13), (0, 10, 17, 15)] :: xG) B.pre
  have hts : ∀ w ∈ xG, w.before _ s = true := fun w h => hts0 w (List.mem_cons_of_mem _ h)
  have htab := vx_table (x := yL_look) B (hts0 _ List.mem_cons_self)
  have hown : s.vm.findClass RL = some m.cls := findClass_of_methodNamed B.named
  have hlocks := B.notSynchronized
  subst hsz
  have hD := hD0.self (sz := s.heap.size)
  generalize hAe : va_A [(x, .inr (12, [.ref (n 0), .ref (n 1), .ref (n 4), .ref (n 5), .ref (n 6), .int 0, .int 0, .null, .long (-1), .long 0])), (n 0, .inl (cy 5, 8, .inr (.inr (.inr (.inr (xa [some (n 7), some (n 25), some (n 43), some (n 61), some (n 79), some (n 97), some (n 115), some (n 133)])))))), (n 7, .inr (3, [.int 0, .ref (n 8), .ref (n 9), .ref (n 10), .ref (n 11), .ref (n 12), .ref (n 13), .int 0, .int 0, .int 0, .int 0, .int 0, .int 0, .int 0, .int 0, .int 0])), (n 25, .inr (3, [.int 1, .ref (n 26), .ref (n 27), .ref (n 28), .ref (n 29), .ref (n 30), .ref (n 31), .int 0, .int 0, .int 0, .int 0, .int 0, .int 0, .int 0, .int 0, .int 0])), (n 43, .inr (3, [.int 2, .ref (n 44), .ref (n 45), .ref (n 46), .ref (n 47), .ref (n 48), .ref (n 49), .int 0, .int 0, .int 0, .int 0, .int 0, .int 0, .int 0, .int 0, .int 0])), (n 61, .inr (3, [.int 3, .ref (n 62), .ref (n 63), .ref (n 64), .ref (n 65), .ref (n 66), .ref (n 67), .int 0, .int 0, .int 0, .int 0, .int 0, .int 0, .int 0, .int 0, .int 0])), (n 79, .inr (3, [.int 4, .ref (n 80), .ref (n 81), .ref (n 82), .ref (n 83), .ref (n 84), .ref (n 85), .int 0, .int 0, .int 0, .int 0, .int 0, .int 0, .int 0, .int 0, .int 0])), (n 97, .inr (3, [.int 5, .ref (n 98), .ref (n 99), .ref (n 100), .ref (n 101), .ref (n 102), .ref (n 103), .int 0, .int 0, .int 0, .int 0, .int 0, .int 0, .int 0, .int 0, .int 0])), (n 115, .inr (3, [.int 6, .ref (n 116), .ref (n 117), .ref (n 118), .ref (n 119), .ref (n 120), .ref (n 121), .int 0, .int 0, .int 0, .int 0, .int 0, .int 0, .int 0, .int 0, .int 0])), (n 133, .inr (3, [.int 7, .ref (n 134), .ref (n 135), .ref (n 136), .ref (n 137), .ref (n 138), .ref (n 139), .int 0, .int 0, .int 0, .int 0, .int 0, .int 0, .int 0, .int 0, .int 0])), (qo, .inl (cy 2, 1, .inr (.inl (fun _ => 0))))] s.heap.size = A at hD ⊢
  have hA : ∀ q : Nat, s.heap.size ≤ q → A q := fun q h => by rw [← hAe]; exact Or.inr h
  have hS : va_S A s.heap s.heap [] := va_S.rf
  have hl := lv_entry ([.ref x, .int h, .int w, .ref qo]) (n := 5) (Nat.le_of_ble_eq_true rfl)
  rw [lg_entry_eq]
  generalize (lg_sl ([.ref x, .int h, .int w, .ref qo]) ++ List.replicate (5 - (lg_sl ([.ref x, .int h, .int w, .ref qo])).length) Slot.unset).toArray = ls at hl ⊢
  have hl : lv_has ls 5 [(0, .ref x), (1, .int h), (2, .int w), (3, .ref qo)] := hl
  refine lv_aload_n hx hb dL_look_0 rfl (lv_at hl 3 rfl) ?_
  refine lv_iconst (v := 0) hx hb dL_look_1 (by decide) ?_
  refine lv_aload_n hx hb dL_look_2 rfl (lv_at hl 0 rfl) ?_
  refine lv_iload_n hx hb dL_look_3 rfl (lv_at hl 1 rfl) ?_
  refine lv_iload_n hx hb dL_look_4 rfl (lv_at hl 2 rfl) ?_
  have hPc := hP.sub (ws' := [(x, .inr (12, [.ref (n 0), .ref (n 1), .ref (n 4), .ref (n 5), .ref (n 6), .int 0, .int 0, .null, .long (-1), .long 0])), (n 0, .inl (cy 5, 8, .inr (.inr (.inr (.inr (xa [some (n 7), some (n 25), some (n 43), some (n 61), some (n 79), some (n 97), some (n 115), some (n 133)])))))), (n 7, .inr (3, [.int 0, .ref (n 8), .ref (n 9), .ref (n 10), .ref (n 11), .ref (n 12), .ref (n 13), .int 0, .int 0, .int 0, .int 0, .int 0, .int 0, .int 0, .int 0, .int 0])), (n 25, .inr (3, [.int 1, .ref (n 26), .ref (n 27), .ref (n 28), .ref (n 29), .ref (n 30), .ref (n 31), .int 0, .int 0, .int 0, .int 0, .int 0, .int 0, .int 0, .int 0, .int 0])), (n 43, .inr (3, [.int 2, .ref (n 44), .ref (n 45), .ref (n 46), .ref (n 47), .ref (n 48), .ref (n 49), .int 0, .int 0, .int 0, .int 0, .int 0, .int 0, .int 0, .int 0, .int 0])), (n 61, .inr (3, [.int 3, .ref (n 62), .ref (n 63), .ref (n 64), .ref (n 65), .ref (n 66), .ref (n 67), .int 0, .int 0, .int 0, .int 0, .int 0, .int 0, .int 0, .int 0, .int 0])), (n 79, .inr (3, [.int 4, .ref (n 80), .ref (n 81), .ref (n 82), .ref (n 83), .ref (n 84), .ref (n 85), .int 0, .int 0, .int 0, .int 0, .int 0, .int 0, .int 0, .int 0, .int 0])), (n 97, .inr (3, [.int 5, .ref (n 98), .ref (n 99), .ref (n 100), .ref (n 101), .ref (n 102), .ref (n 103), .int 0, .int 0, .int 0, .int 0, .int 0, .int 0, .int 0, .int 0, .int 0])), (n 115, .inr (3, [.int 6, .ref (n 116), .ref (n 117), .ref (n 118), .ref (n 119), .ref (n 120), .ref (n 121), .int 0, .int 0, .int 0, .int 0, .int 0, .int 0, .int 0, .int 0, .int 0])), (n 133, .inr (3, [.int 7, .ref (n 134), .ref (n 135), .ref (n 136), .ref (n 137), .ref (n 138), .ref (n 139), .int 0, .int 0, .int 0, .int 0, .int 0, .int 0, .int 0, .int 0, .int 0]))]) [0, 1, 2, 3, 4, 5, 6, 7, 8, 9] rfl
  have hDc := hD.sub (ws' := [(x, .inr (12, [.ref (n 0), .ref (n 1), .ref (n 4), .ref (n 5), .ref (n 6), .int 0, .int 0, .null, .long (-1), .long 0])), (n 0, .inl (cy 5, 8, .inr (.inr (.inr (.inr (xa [some (n 7), some (n 25), some (n 43), some (n 61), some (n 79), some (n 97), some (n 115), some (n 133)])))))), (n 7, .inr (3, [.int 0, .ref (n 8), .ref (n 9), .ref (n 10), .ref (n 11), .ref (n 12), .ref (n 13), .int 0, .int 0, .int 0, .int 0, .int 0, .int 0, .int 0, .int 0, .int 0])), (n 25, .inr (3, [.int 1, .ref (n 26), .ref (n 27), .ref (n 28), .ref (n 29), .ref (n 30), .ref (n 31), .int 0, .int 0, .int 0, .int 0, .int 0, .int 0, .int 0, .int 0, .int 0])), (n 43, .inr (3, [.int 2, .ref (n 44), .ref (n 45), .ref (n 46), .ref (n 47), .ref (n 48), .ref (n 49), .int 0, .int 0, .int 0, .int 0, .int 0, .int 0, .int 0, .int 0, .int 0])), (n 61, .inr (3, [.int 3, .ref (n 62), .ref (n 63), .ref (n 64), .ref (n 65), .ref (n 66), .ref (n 67), .int 0, .int 0, .int 0, .int 0, .int 0, .int 0, .int 0, .int 0, .int 0])), (n 79, .inr (3, [.int 4, .ref (n 80), .ref (n 81), .ref (n 82), .ref (n 83), .ref (n 84), .ref (n 85), .int 0, .int 0, .int 0, .int 0, .int 0, .int 0, .int 0, .int 0, .int 0])), (n 97, .inr (3, [.int 5, .ref (n 98), .ref (n 99), .ref (n 100), .ref (n 101), .ref (n 102), .ref (n 103), .int 0, .int 0, .int 0, .int 0, .int 0, .int 0, .int 0, .int 0, .int 0])), (n 115, .inr (3, [.int 6, .ref (n 116), .ref (n 117), .ref (n 118), .ref (n 119), .ref (n 120), .ref (n 121), .int 0, .int 0, .int 0, .int 0, .int 0, .int 0, .int 0, .int 0, .int 0])), (n 133, .inr (3, [.int 7, .ref (n 134), .ref (n 135), .ref (n 136), .ref (n 137), .ref (n 138), .ref (n 139), .int 0, .int 0, .int 0, .int 0, .int 0, .int 0, .int 0, .int 0, .int 0]))]) [0, 1, 2, 3, 4, 5, 6, 7, 8, 9] (by decide) rfl
  have hFc := va_free (wc := [(x, .inr (12, [.ref (n 0), .ref (n 1), .ref (n 4), .ref (n 5), .ref (n 6), .int 0, .int 0, .null, .long (-1), .long 0])), (n 0, .inl (cy 5, 8, .inr (.inr (.inr (.inr (xa [some (n 7), some (n 25), some (n 43), some (n 61), some (n 79), some (n 97), some (n 115), some (n 133)])))))), (n 7, .inr (3, [.int 0, .ref (n 8), .ref (n 9), .ref (n 10), .ref (n 11), .ref (n 12), .ref (n 13), .int 0, .int 0, .int 0, .int 0, .int 0, .int 0, .int 0, .int 0, .int 0])), (n 25, .inr (3, [.int 1, .ref (n 26), .ref (n 27), .ref (n 28), .ref (n 29), .ref (n 30), .ref (n 31), .int 0, .int 0, .int 0, .int 0, .int 0, .int 0, .int 0, .int 0, .int 0])), (n 43, .inr (3, [.int 2, .ref (n 44), .ref (n 45), .ref (n 46), .ref (n 47), .ref (n 48), .ref (n 49), .int 0, .int 0, .int 0, .int 0, .int 0, .int 0, .int 0, .int 0, .int 0])), (n 61, .inr (3, [.int 3, .ref (n 62), .ref (n 63), .ref (n 64), .ref (n 65), .ref (n 66), .ref (n 67), .int 0, .int 0, .int 0, .int 0, .int 0, .int 0, .int 0, .int 0, .int 0])), (n 79, .inr (3, [.int 4, .ref (n 80), .ref (n 81), .ref (n 82), .ref (n 83), .ref (n 84), .ref (n 85), .int 0, .int 0, .int 0, .int 0, .int 0, .int 0, .int 0, .int 0, .int 0])), (n 97, .inr (3, [.int 5, .ref (n 98), .ref (n 99), .ref (n 100), .ref (n 101), .ref (n 102), .ref (n 103), .int 0, .int 0, .int 0, .int 0, .int 0, .int 0, .int 0, .int 0, .int 0])), (n 115, .inr (3, [.int 6, .ref (n 116), .ref (n 117), .ref (n 118), .ref (n 119), .ref (n 120), .ref (n 121), .int 0, .int 0, .int 0, .int 0, .int 0, .int 0, .int 0, .int 0, .int 0])), (n 133, .inr (3, [.int 7, .ref (n 134), .ref (n 135), .ref (n 136), .ref (n 137), .ref (n 138), .ref (n 139), .int 0, .int 0, .int 0, .int 0, .int 0, .int 0, .int 0, .int 0, .int 0]))]) hD hS hA [0, 1, 2, 3, 4, 5, 6, 7, 8, 9] rfl
  have hPo := hP.sub (ws' := [(qo, .inl (cy 2, 1, .inr (.inl (fun _ => 0))))]) [10] rfl
  have hDo := hD.sub (ws' := [(qo, .inl (cy 2, 1, .inr (.inl (fun _ => 0))))]) [10] (by decide) rfl
  refine vx_calli (vx_runV (As := [.int h, .int w]) (rest := [.int 0, .ref qo]) ⟨hx, hb, hml, hown, hts⟩ (c_look l hlt D cy x n h w a1 a2 s.heap.size) (cwV 2 hts (xV gw1020 gw1021 gw1022 gw1 gw1023) rfl rfl rfl (by decide +kernel) ⟨(Nat.le_of_ble_eq_true rfl), (Nat.le_of_ble_eq_true rfl)⟩) ⟨xblindT, va_recv hK.1 hPc (ci := 12) (q0 := 0) rfl rfl, fun U hU hW => ⟨rfl, ⟨by rw [hU], by rw [hU]; exact hPc, hK.warm hW, hDc.weaken (fun _ _ _ _ => trivial)⟩, xKt.at hW va_S.rf hU hT⟩⟩ rfl rfl hl.1 rfl (lv_room (Nat.le_of_ble_eq_true rfl)) dL_look_5 ⟨(Nat.le_of_ble_eq_true rfl), (Nat.le_of_ble_eq_true rfl)⟩) hS (fun q _ h => hFc q h) hFc (fun q _ h => h.elim) (fun E ce q9 u t H locs ht hvm hpx hBX hz hk hS hce hcv hcl => ?_) (fun r u t H locs ht hvm hw hB hz hk hS => ?_)
  · have hP9 : va_P D vwCl [(qo, .inl (cy 2, 1, .inr (.inl (fun _ => 0))))] H := hPo.kept (fun k q hq => hk q.1 ((hPo k q hq).lt) (fun f => f))
    rcases hBX with ⟨rfl, hth⟩ | ⟨rfl, hth⟩
    · refine vx_catch hown [] { startPc := 0, endPc := 10, handlerPc := 13, catchType := 13 } [{ startPc := 0, endPc := 10, handlerPc := 17, catchType := 15 }] (by rw [htab]; rfl) (fun z hz => nomatch hz) (by decide) (by decide) (hts _ gw1018) (va_Nw.use rfl hT.2.1.1) hce hcv hcl ?_
      refine lv_astore (lv' := [(4, .ref q9), (0, .ref x), (1, .int h), (2, .int w), (3, .ref qo)]) hx hb dL_look_13 hl (by decide) rfl (fun ls hl => ?_)
      refine lv_iconst (v := 1) hx hb dL_look_15 (by decide) ?_
      refine W.widen (k := 1) (n := 6) (Nat.le_of_ble_eq_true rfl) (Nat.le_of_ble_eq_true rfl) ?_
      refine vx_ret ?_
      exact W.iret (v := 1) hx hb hr (fun t ht hW => ⟨⟨1, fun _ => 0, rfl, ⟨hth.symm, fun q => absurd q (by decide)⟩, by rw [ht]; exact hP9, hDo⟩, hS.F ht⟩) hS.2.2 dL_look_16
    · refine vx_catch hown [{ startPc := 0, endPc := 10, handlerPc := 13, catchType := 13 }] { startPc := 0, endPc := 10, handlerPc := 17, catchType := 15 } [] (by rw [htab]; rfl) (fun z hz => by rw [List.mem_singleton.mp hz]; exact Or.inr ⟨by decide, xIO, hts _ gw1018, hT.2.1.2.2⟩) (by decide) (by decide) (hts _ gw1019) (va_Nw.use rfl hT.2.1.2.1) hce hcv hcl ?_
      refine lv_astore (lv' := [(4, .ref q9), (0, .ref x), (1, .int h), (2, .int w), (3, .ref qo)]) hx hb dL_look_17 hl (by decide) rfl (fun ls hl => ?_)
      refine lv_iconst (v := 2) hx hb dL_look_19 (by decide) ?_
      refine W.widen (k := 1) (n := 6) (Nat.le_of_ble_eq_true rfl) (Nat.le_of_ble_eq_true rfl) ?_
      refine vx_ret ?_
      exact W.iret (v := 2) hx hb hr (fun t ht hW => ⟨⟨2, fun _ => 0, rfl, ⟨hth.symm, fun q => absurd q (by decide)⟩, by rw [ht]; exact hP9, hDo⟩, hS.F ht⟩) hS.2.2 dL_look_20
  · obtain ⟨hP1, hD1⟩ := hB
    rw [ht] at hP1
    obtain ⟨hP, hD⟩ := va_join (wr := [(qo, .inl (cy 2, 1, .inr (.inl (fun _ => 0))))]) (w1 := []) hP hD [0, 1, 2, 3, 4, 5, 6, 7, 8, 9] [10] rfl rfl (by decide) (by decide) hk hFc hP1 hD1
    have hP : va_P D vwCl [(qo, .inl (cy 2, 1, .inr (.inl (fun _ => 0))))] H := hP
    have hD : va_D A [(qo, .inl (cy 2, 1, .inr (.inl (fun _ => 0))))] := hD
    refine lv_i2l (v := r.toInt64) hx hb dL_look_8 rfl ?_
    refine va_last hx hb hK.1 hP hD hS 0 2 rfl rfl (show vp_in 0 1 by unfold vp_in; decide) dL_look_9 (fun H locs hP hD hS => ?_)
    refine lv_goto (tgt := 21) hx hb dL_look_10 (by decide) ?_
    refine lv_iconst (v := 0) hx hb dL_look_21 (by decide) ?_
    refine W.widen (k := 1) (n := 6) (Nat.le_of_ble_eq_true rfl) (Nat.le_of_ble_eq_true rfl) ?_
    refine vx_ret ?_
    exact W.iret (v := 0) hx hb hr (fun t ht hW => ⟨⟨0, vp_updL (fun _ => 0) (Int32.toNatClampNeg 0) r.toInt64, rfl, ⟨hw.2.symm, fun _ => by rw [← hw.1]; rfl⟩, by rw [ht]; exact hP, hD⟩, hS.F ht⟩) hS.2.2 dL_look_22
