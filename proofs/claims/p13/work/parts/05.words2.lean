theorem gw77 : (Cond.methodLink RX11 3 objectInit) ∈ xG := xin1 77 (by decide +kernel) (by decide +kernel)
theorem gw27 : (Cond.instanceMethod objectInit) ∈ xG := xin1 27 (by decide +kernel) (by decide +kernel)
theorem gw28 : (Cond.code objectInit ⟨#[0xb1]⟩ 1 none) ∈ xG := xin1 28 (by decide +kernel) (by decide +kernel)
theorem gw62 : (Cond.arrayClass .byte) ∈ xG := xin1 62 (by decide +kernel) (by decide +kernel)
theorem gw78 : (Cond.fieldLink RX11 11 "CableNames$Word" "signs" "[B") ∈ xG := xin1 78 (by decide +kernel) (by decide +kernel)
theorem gw81 : (Cond.fieldLink RX11 15 "CableNames$Word" "size" "I") ∈ xG := xin1 81 (by decide +kernel) (by decide +kernel)
theorem gw95 : (Cond.methodLink RX10 1 objectInit) ∈ xG := xin1 95 (by decide +kernel) (by decide +kernel)
theorem gw96 : (Cond.classLink RX10 7 RX11) ∈ xG := xin1 96 (by decide +kernel) (by decide +kernel)
theorem gw73 : (Cond.instantiable RX11 2) ∈ xG := xin1 73 (by decide +kernel) (by decide +kernel)
theorem gw4 : (Cond.initialized RX11) ∈ xG := xin1 4 (by decide +kernel) (by decide +kernel)
theorem gw76 : (Cond.code yX11_init cX11_init 1 none) ∈ xG := xin1 76 (by decide +kernel) (by decide +kernel)
theorem gw75 : (Cond.instanceMethod yX11_init) ∈ xG := xin1 75 (by decide +kernel) (by decide +kernel)
theorem gw98 : (Cond.fieldLink RX10 10 "CableNames$Told" "word" "LCableNames$Word;") ∈ xG := xin1 98 (by decide +kernel) (by decide +kernel)
theorem gw103 : (Cond.fieldLink RX10 16 "CableNames$Told" "name" "LCableNames$Word;") ∈ xG := xin1 103 (by decide +kernel) (by decide +kernel)
theorem gw106 : (Cond.fieldLink RX10 19 "CableNames$Told" "sort" "I") ∈ xG := xin1 106 (by decide +kernel) (by decide +kernel)
theorem gw111 : (Cond.fieldLink RX10 23 "CableNames$Told" "life" "I") ∈ xG := xin1 111 (by decide +kernel) (by decide +kernel)
theorem gw115 : (Cond.fieldLink RX10 26 "CableNames$Told" "value" "I") ∈ xG := xin1 115 (by decide +kernel) (by decide +kernel)
theorem gw119 : (Cond.fieldLink RX10 29 "CableNames$Told" "unique" "Z") ∈ xG := xin1 119 (by decide +kernel) (by decide +kernel)
theorem gw263 : (Cond.methodLink RX2 3 objectInit) ∈ xG := xin2 23 (by decide +kernel) (by decide +kernel)
theorem gw264 : (Cond.classLink RX2 9 RX11) ∈ xG := xin2 24 (by decide +kernel) (by decide +kernel)
theorem gw266 : (Cond.fieldLink RX2 12 "CableNames$Entry" "word" "LCableNames$Word;") ∈ xG := xin2 26 (by decide +kernel) (by decide +kernel)
theorem gw268 : (Cond.fieldLink RX2 18 "CableNames$Entry" "name" "LCableNames$Word;") ∈ xG := xin2 28 (by decide +kernel) (by decide +kernel)
theorem gw270 : (Cond.fieldLink RX2 21 "CableNames$Entry" "sort" "I") ∈ xG := xin2 30 (by decide +kernel) (by decide +kernel)
theorem gw272 : (Cond.fieldLink RX2 25 "CableNames$Entry" "value" "I") ∈ xG := xin2 32 (by decide +kernel) (by decide +kernel)
theorem gw274 : (Cond.fieldLink RX2 28 "CableNames$Entry" "life" "I") ∈ xG := xin2 34 (by decide +kernel) (by decide +kernel)
theorem gw275 : (Cond.fieldLink RX2 31 "CableNames$Entry" "refreshes" "I") ∈ xG := xin2 35 (by decide +kernel) (by decide +kernel)
theorem gw276 : (Cond.fieldLink RX2 34 "CableNames$Entry" "begins" "J") ∈ xG := xin2 36 (by decide +kernel) (by decide +kernel)
theorem gw278 : (Cond.fieldLink RX2 38 "CableNames$Entry" "ends" "J") ∈ xG := xin2 38 (by decide +kernel) (by decide +kernel)
theorem gw280 : (Cond.fieldLink RX2 41 "CableNames$Entry" "due" "J") ∈ xG := xin2 40 (by decide +kernel) (by decide +kernel)
theorem gw283 : (Cond.fieldLink RX2 44 "CableNames$Entry" "isDying" "Z") ∈ xG := xin2 43 (by decide +kernel) (by decide +kernel)
theorem gw320 : (Cond.methodLink RX9 1 objectInit) ∈ xG := xin2 80 (by decide +kernel) (by decide +kernel)
theorem gw321 : (Cond.classLink RX9 7 RX11) ∈ xG := xin2 81 (by decide +kernel) (by decide +kernel)
theorem gw323 : (Cond.fieldLink RX9 10 "CableNames$Service" "type" "LCableNames$Word;") ∈ xG := xin2 83 (by decide +kernel) (by decide +kernel)
theorem gw327 : (Cond.fieldLink RX9 16 "CableNames$Service" "port" "I") ∈ xG := xin2 87 (by decide +kernel) (by decide +kernel)
theorem gw372 : (Cond.methodLink RX8 1 objectInit) ∈ xG := xin2 132 (by decide +kernel) (by decide +kernel)
theorem gw373 : (Cond.classLink RX8 7 RX11) ∈ xG := xin2 133 (by decide +kernel) (by decide +kernel)
theorem gw375 : (Cond.fieldLink RX8 10 "CableNames$Reply" "type" "LCableNames$Word;") ∈ xG := xin2 135 (by decide +kernel) (by decide +kernel)
theorem gw378 : (Cond.fieldLink RX8 16 "CableNames$Reply" "due" "J") ∈ xG := xin2 138 (by decide +kernel) (by decide +kernel)
theorem gw339 : (Cond.methodLink RX6 1 objectInit) ∈ xG := xin2 99 (by decide +kernel) (by decide +kernel)
theorem gw340 : (Cond.classLink RX6 7 RX11) ∈ xG := xin2 100 (by decide +kernel) (by decide +kernel)
theorem gw342 : (Cond.fieldLink RX6 10 "CableNames$Question" "word" "LCableNames$Word;") ∈ xG := xin2 102 (by decide +kernel) (by decide +kernel)
theorem gw346 : (Cond.fieldLink RX6 16 "CableNames$Question" "isOpen" "Z") ∈ xG := xin2 106 (by decide +kernel) (by decide +kernel)
theorem gw349 : (Cond.fieldLink RX6 20 "CableNames$Question" "sort" "I") ∈ xG := xin2 109 (by decide +kernel) (by decide +kernel)
theorem gw353 : (Cond.fieldLink RX6 24 "CableNames$Question" "wait" "I") ∈ xG := xin2 113 (by decide +kernel) (by decide +kernel)
theorem gw354 : (Cond.fieldLink RX6 27 "CableNames$Question" "due" "J") ∈ xG := xin2 114 (by decide +kernel) (by decide +kernel)
theorem gw182 : (Cond.methodLink RX0 3 objectInit) ∈ xG := xin1 182 (by decide +kernel) (by decide +kernel)
theorem gw185 : (Cond.fieldLink RX0 9 "CableNames$AddressClaim" "tries" "I") ∈ xG := xin1 185 (by decide +kernel) (by decide +kernel)
theorem gw187 : (Cond.fieldLink RX0 15 "CableNames$AddressClaim" "address" "I") ∈ xG := xin1 187 (by decide +kernel) (by decide +kernel)
theorem gw191 : (Cond.fieldLink RX0 18 "CableNames$AddressClaim" "step" "I") ∈ xG := xin1 191 (by decide +kernel) (by decide +kernel)
theorem gw183 : (Cond.constantLong RX0 21 (4611686018427387904)) ∈ xG := xin1 183 (by decide +kernel) (by decide +kernel)
theorem gw193 : (Cond.fieldLink RX0 23 "CableNames$AddressClaim" "due" "J") ∈ xG := xin1 193 (by decide +kernel) (by decide +kernel)
theorem gw184 : (Cond.constantLong RX0 27 (-1)) ∈ xG := xin1 184 (by decide +kernel) (by decide +kernel)
theorem gw196 : (Cond.fieldLink RX0 29 "CableNames$AddressClaim" "defended" "J") ∈ xG := xin1 196 (by decide +kernel) (by decide +kernel)
theorem gw214 : (Cond.methodLink RX4 3 objectInit) ∈ xG := xin1 214 (by decide +kernel) (by decide +kernel)
theorem gw215 : (Cond.classLink RX4 9 RX11) ∈ xG := xin1 215 (by decide +kernel) (by decide +kernel)
theorem gw218 : (Cond.fieldLink RX4 12 "CableNames$NameClaim" "wish" "LCableNames$Word;") ∈ xG := xin1 218 (by decide +kernel) (by decide +kernel)
theorem gw220 : (Cond.fieldLink RX4 18 "CableNames$NameClaim" "name" "LCableNames$Word;") ∈ xG := xin1 220 (by decide +kernel) (by decide +kernel)
theorem gw223 : (Cond.fieldLink RX4 21 "CableNames$NameClaim" "state" "I") ∈ xG := xin1 223 (by decide +kernel) (by decide +kernel)
theorem gw226 : (Cond.fieldLink RX4 25 "CableNames$NameClaim" "number" "I") ∈ xG := xin1 226 (by decide +kernel) (by decide +kernel)
theorem gw227 : (Cond.fieldLink RX4 28 "CableNames$NameClaim" "step" "I") ∈ xG := xin1 227 (by decide +kernel) (by decide +kernel)
theorem gw217 : (Cond.constantLong RX4 31 (4611686018427387904)) ∈ xG := xin1 217 (by decide +kernel) (by decide +kernel)
theorem gw229 : (Cond.fieldLink RX4 33 "CableNames$NameClaim" "due" "J") ∈ xG := xin1 229 (by decide +kernel) (by decide +kernel)
theorem gw36 : (Cond.methodLink RX5 3 objectInit) ∈ xG := xin1 36 (by decide +kernel) (by decide +kernel)
theorem gw37 : (Cond.fieldLink RX5 11 "CableNames$Packet" "bytes" "[B") ∈ xG := xin1 37 (by decide +kernel) (by decide +kernel)
theorem gw63 : (Cond.arrayClass .int) ∈ xG := xin1 63 (by decide +kernel) (by decide +kernel)
theorem gw39 : (Cond.fieldLink RX5 15 "CableNames$Packet" "wordPlaces" "[I") ∈ xG := xin1 39 (by decide +kernel) (by decide +kernel)
theorem gw40 : (Cond.fieldLink RX5 19 "CableNames$Packet" "size" "I") ∈ xG := xin1 40 (by decide +kernel) (by decide +kernel)
theorem gw43 : (Cond.fieldLink RX5 23 "CableNames$Packet" "wordCount" "I") ∈ xG := xin1 43 (by decide +kernel) (by decide +kernel)
theorem gw45 : (Cond.fieldLink RX5 26 "CableNames$Packet" "sender" "I") ∈ xG := xin1 45 (by decide +kernel) (by decide +kernel)
theorem gw47 : (Cond.fieldLink RX5 29 "CableNames$Packet" "part" "I") ∈ xG := xin1 47 (by decide +kernel) (by decide +kernel)
theorem xV {own : String} {idx : Nat} {C : String} {y : MethodName} {c : ByteArray} {n : Nat} {r : Option FieldType} (h1 : Cond.methodLink own idx y ∈ xG) (h2 : Cond.instanceMethod y ∈ xG) (h3 : Cond.selects C y y ∈ xG) (h4 : Cond.initialized C ∈ xG) (h5 : Cond.code y c n r ∈ xG) : GoodIn xG (wsV own idx C y (xw y c n r)) := by
  have h : ∀ w ∈ wsV own idx C y (xw y c n r), w ∈ xG := by
    intro w hw
    unfold wsV at hw
    rcases List.mem_append.mp hw with q | q
    · rcases List.mem_cons.mp q with e | q
      · exact e ▸ h1
      · rcases List.mem_cons.mp q with e | q
        · exact e ▸ h2
        · rcases List.mem_cons.mp q with e | q
          · exact e ▸ h3
          · rcases List.mem_cons.mp q with e | q
            · exact e ▸ h4
            · exact absurd q List.not_mem_nil
    · exact xw_in h5 w q
  exact fun w hw => ⟨h w hw, xgood (h w hw)⟩
set_option maxHeartbeats 4000000 in
set_option maxRecDepth 100000 in
theorem c_Word_init (l : Launch) (D : va_G) (cy : Nat → ClassId) (w : Nat) : xMv l D cy yX11_init cX11_init 1 ({ frames := 1, cells := 1, slots := 15, locals := 12 }) [.ref w] [(w, .inr (11, [.null, .int 0]))] (S := Unit) (fun _ => True) (fun _ => []) := by
  intro sz
  refine Met.ofW (cc := cX11_init) (maxL := 1) (ret := none) (by decide) rfl ?_
  intro p e s m args below meth c s₁ B hml hv
  obtain ⟨rfl, hsz, hP, hK, hD0⟩ := hv
  have hx := B.exec
  have hb := B.bytes
  have hr := B.returns
  have hts0 := atoms_spec (ws := xw yX11_init cX11_init 1 none) B.pre
  have hts : ∀ w ∈ xG, w.before _ s = true := fun w h => hts0 w (List.mem_cons_of_mem _ h)
  have hown : s.vm.findClass RX11 = some m.cls := findClass_of_methodNamed B.named
  have hlocks := B.notSynchronized
  have hin : meth.name = "<init>" := (name_of_methodNamed B.named B.method).1
  subst hsz
  have hD := hD0.self (sz := s.heap.size)
  generalize hAe : va_A [(w, .inr (11, [.null, .int 0]))] s.heap.size = A at hD ⊢
  have hA : ∀ q : Nat, s.heap.size ≤ q → A q := fun q h => by rw [← hAe]; exact Or.inr h
  have hS : va_S A s.heap s.heap [] := va_S.rf
  have hl := lv_entry ([.ref w]) (n := 1) (Nat.le_of_ble_eq_true rfl)
  rw [lg_entry_eq]
  generalize (lg_sl ([.ref w]) ++ List.replicate (1 - (lg_sl ([.ref w])).length) Slot.unset).toArray = ls at hl ⊢
  have hl : lv_has ls 1 [(0, .ref w)] := hl
  refine lv_aload_n hx hb dX11_init_0 rfl (lv_at hl 0 rfl) ?_
  refine W.objInit hx hb hown (hts _ gw77) (hts _ gw27) (hts _ gw28) rfl (by rw [hml]; exact hl.1) rfl dX11_init_1 (Nat.le_of_ble_eq_true rfl) (Nat.le_of_ble_eq_true rfl) ?_
  refine W.eq (g2 := F0 m 4 ls []) rfl ?_
  refine lv_aload_n hx hb dX11_init_4 rfl (lv_at hl 0 rfl) ?_
  refine lv_bipush (v := 15) hx hb dX11_init_5 (by decide) ?_
  refine x_newa (atype := .byte) (a0 := (15, .inl (fun _ => 0))) hx hb (hts _ gw62) hK.1 hP hD hS hA 0 rfl (fun _ => rfl) (by decide) (by decide +kernel) (by decide) (Nat.le_of_ble_eq_true rfl) (Nat.le_of_ble_eq_true rfl) dX11_init_7 (fun q_1 H hP hD hS => ?_)
  have hP : va_P D vwCl [(w, .inr (11, [.null, .int 0])), (q_1, .inl (cy 0, 15, .inl (fun _ => 0)))] H := hP
  have hD : va_D A [(w, .inr (11, [.null, .int 0])), (q_1, .inl (cy 0, 15, .inl (fun _ => 0)))] := hD
  refine W.widen (k := 1) (n := 15) (Nat.le_of_ble_eq_true rfl) (Nat.le_of_ble_eq_true rfl) ?_
  refine va_putF (D := D) (ci := 11) (v := .ref q_1) (ty := tyX11 0) (C := RX11) (T := TX11) (N := 2) hx hb hts iG11 tyX11 tyX11_ok nmX11 hown hK.1 hP hD hS 0 rfl rfl 0 (by decide) (hts _ gw78) (fun _ h9 => h9) rfl hin rfl (by decide +kernel) rfl rfl (Nat.le_of_ble_eq_true rfl) dX11_init_9 (fun H locs hP hD hS => ?_)
  have hP : va_P D vwCl [(w, .inr (11, [.ref q_1, .int 0])), (q_1, .inl (cy 0, 15, .inl (fun _ => 0)))] H := hP
  have hD : va_D A [(w, .inr (11, [.ref q_1, .int 0])), (q_1, .inl (cy 0, 15, .inl (fun _ => 0)))] := hD
  refine lv_aload_n hx hb dX11_init_12 rfl (lv_at hl 0 rfl) ?_
  refine lv_iconst (v := 0) hx hb dX11_init_13 (by decide) ?_
  refine va_put (D := D) (ci := 11) (v := .int 0) (ty := .int) (C := RX11) (T := TX11) (N := 2) hx hb hts iG11 tyX11 tyX11_ok nmX11 hown hK.1 hP hD hS 0 rfl rfl 1 (by decide) (hts _ gw81) (fun _ h9 => h9) rfl (by decide +kernel) rfl rfl (Nat.le_of_ble_eq_true rfl) dX11_init_14 (fun H locs hP hD hS => ?_)
  have hP : va_P D vwCl [(w, .inr (11, [.ref q_1, .int 0])), (q_1, .inl (cy 0, 15, .inl (fun _ => 0)))] H := hP
  have hD : va_D A [(w, .inr (11, [.ref q_1, .int 0])), (q_1, .inl (cy 0, 15, .inl (fun _ => 0)))] := hD
  have hP9 := hP.sub (ws' := []) [] rfl
  have hD9 := hD.sub (ws' := []) [] (by decide) rfl
  refine W.widen (k := 1) (n := 15) (Nat.le_of_ble_eq_true rfl) (Nat.le_of_ble_eq_true rfl) ?_
  exact W.vret hx hb hr (fun t ht hW => ⟨⟨(), rfl, trivial, by rw [ht]; exact hP9, hD9⟩, hS.F ht⟩) hS.2.2 dX11_init_17
set_option maxHeartbeats 4000000 in
set_option maxRecDepth 100000 in
theorem c_Told_init (l : Launch) (D : va_G) (cy : Nat → ClassId) (h : Nat) : xMv l D cy yX10_init cX10_init 1 ({ frames := 2, cells := 4, slots := 34, locals := 32 }) [.ref h] [(h, .inr (10, [.null, .null, .int 0, .int 0, .int 0, .int 0]))] (S := Nat × Nat) (fun _ => True) (fun u => [(h, .inr (10, [.ref u.1, .ref u.2, .int 0, .int 0, .int 0, .int 0]))]) := by
  intro sz
  refine Met.ofW (cc := cX10_init) (maxL := 1) (ret := none) (by decide) rfl ?_
  intro p e s m args below meth c s₁ B hml hv
  obtain ⟨rfl, hsz, hP, hK, hD0⟩ := hv
  have hx := B.exec
  have hb := B.bytes
  have hr := B.returns
  have hts0 := atoms_spec (ws := xw yX10_init cX10_init 1 none) B.pre
  have hts : ∀ w ∈ xG, w.before _ s = true := fun w h => hts0 w (List.mem_cons_of_mem _ h)
  have hown : s.vm.findClass RX10 = some m.cls := findClass_of_methodNamed B.named
  have hlocks := B.notSynchronized
  have hin : meth.name = "<init>" := (name_of_methodNamed B.named B.method).1
  subst hsz
  have hD := hD0.self (sz := s.heap.size)
  generalize hAe : va_A [(h, .inr (10, [.null, .null, .int 0, .int 0, .int 0, .int 0]))] s.heap.size = A at hD ⊢
  have hA : ∀ q : Nat, s.heap.size ≤ q → A q := fun q h => by rw [← hAe]; exact Or.inr h
  have hS : va_S A s.heap s.heap [] := va_S.rf
  have hl := lv_entry ([.ref h]) (n := 1) (Nat.le_of_ble_eq_true rfl)
  rw [lg_entry_eq]
  generalize (lg_sl ([.ref h]) ++ List.replicate (1 - (lg_sl ([.ref h])).length) Slot.unset).toArray = ls at hl ⊢
  have hl : lv_has ls 1 [(0, .ref h)] := hl
  refine lv_aload_n hx hb dX10_init_0 rfl (lv_at hl 0 rfl) ?_
  refine W.objInit hx hb hown (hts _ gw95) (hts _ gw27) (hts _ gw28) rfl (by rw [hml]; exact hl.1) rfl dX10_init_1 (Nat.le_of_ble_eq_true rfl) (Nat.le_of_ble_eq_true rfl) ?_
  refine W.eq (g2 := F0 m 4 ls []) rfl ?_
  refine lv_aload_n hx hb dX10_init_4 rfl (lv_at hl 0 rfl) ?_
  refine va_new (ci := 11) (fs := df11) (C := RX11) (T := TX11) (N := 2) hx hb hts iG11 tyX11 tyX11_ok hown (hts _ gw96) (hts _ gw73) (hts _ gw4) hK.1 hP hD hS hA rfl nf11 (Nat.le_of_ble_eq_true rfl) (Nat.le_of_ble_eq_true rfl) dX10_init_5 (fun q_1 H hP hD hS => ?_)
  have hP : va_P D vwCl [(h, .inr (10, [.null, .null, .int 0, .int 0, .int 0, .int 0])), (q_1, .inr (11, [.null, .int 0]))] H := hP
  have hD : va_D A [(h, .inr (10, [.null, .null, .int 0, .int 0, .int 0, .int 0])), (q_1, .inr (11, [.null, .int 0]))] := hD
  refine W.widen (k := 1) (n := 2) (Nat.le_of_ble_eq_true rfl) (Nat.le_of_ble_eq_true rfl) ?_
  refine lv_dup hx hb dX10_init_8 rfl ?_
  refine x_callv [(q_1, .inr (11, [.null, .int 0]))] [(h, .inr (10, [.null, .null, .int 0, .int 0, .int 0, .int 0]))] (va_runIN (As := []) (rest := [.ref q_1, .ref h]) ⟨hx, hb, hml, hown, hts⟩ (c_Word_init l D cy q_1 H.size) ⟨va_cnB 0 hts (xw_good gw76) rfl rfl rfl (nx3 hK) (hts _ gw4) (by decide +kernel) ⟨(Nat.le_of_ble_eq_true rfl), (Nat.le_of_ble_eq_true rfl)⟩, rfl, hts _ gw75⟩ (xpreS hK (hP.sub (ws' := [(q_1, .inr (11, [.null, .int 0]))]) [1] rfl) (hD.sub (ws' := [(q_1, .inr (11, [.null, .int 0]))]) [1] (by decide) rfl)) rfl rfl hl.1 rfl (lv_room (Nat.le_of_ble_eq_true rfl)) dX10_init_9 ⟨(Nat.le_of_ble_eq_true rfl), (Nat.le_of_ble_eq_true rfl)⟩) hP hD hS hA [1] [0] rfl rfl (by decide) (by decide) (fun u_2 H locs hw_u_2 hP hD hS => ?_)
  have hP : va_P D vwCl [(h, .inr (10, [.null, .null, .int 0, .int 0, .int 0, .int 0]))] H := hP
  have hD : va_D A [(h, .inr (10, [.null, .null, .int 0, .int 0, .int 0, .int 0]))] := hD
  refine W.widen (k := 2) (n := 17) (Nat.le_of_ble_eq_true rfl) (Nat.le_of_ble_eq_true rfl) ?_
  refine va_putF (D := D) (ci := 10) (v := .ref q_1) (ty := tyX10 0) (C := RX10) (T := TX10) (N := 6) hx hb hts iG10 tyX10 tyX10_ok nmX10 hown hK.1 hP hD hS 0 rfl rfl 0 (by decide) (hts _ gw98) (fun _ h9 => h9) rfl hin rfl (by decide +kernel) rfl rfl (Nat.le_of_ble_eq_true rfl) dX10_init_12 (fun H locs hP hD hS => ?_)
  have hP : va_P D vwCl [(h, .inr (10, [.ref q_1, .null, .int 0, .int 0, .int 0, .int 0]))] H := hP
  have hD : va_D A [(h, .inr (10, [.ref q_1, .null, .int 0, .int 0, .int 0, .int 0]))] := hD
  refine lv_aload_n hx hb dX10_init_15 rfl (lv_at hl 0 rfl) ?_
  refine va_new (ci := 11) (fs := df11) (C := RX11) (T := TX11) (N := 2) hx hb hts iG11 tyX11 tyX11_ok hown (hts _ gw96) (hts _ gw73) (hts _ gw4) hK.1 hP hD hS hA rfl nf11 (Nat.le_of_ble_eq_true rfl) (Nat.le_of_ble_eq_true rfl) dX10_init_16 (fun q_3 H hP hD hS => ?_)
  have hP : va_P D vwCl [(h, .inr (10, [.ref q_1, .null, .int 0, .int 0, .int 0, .int 0])), (q_3, .inr (11, [.null, .int 0]))] H := hP
  have hD : va_D A [(h, .inr (10, [.ref q_1, .null, .int 0, .int 0, .int 0, .int 0])), (q_3, .inr (11, [.null, .int 0]))] := hD
  refine W.widen (k := 3) (n := 19) (Nat.le_of_ble_eq_true rfl) (Nat.le_of_ble_eq_true rfl) ?_
  refine lv_dup hx hb dX10_init_19 rfl ?_
  refine x_callv [(q_3, .inr (11, [.null, .int 0]))] [(h, .inr (10, [.ref q_1, .null, .int 0, .int 0, .int 0, .int 0]))] (va_runIN (As := []) (rest := [.ref q_3, .ref h]) ⟨hx, hb, hml, hown, hts⟩ (c_Word_init l D cy q_3 H.size) ⟨va_cnB 0 hts (xw_good gw76) rfl rfl rfl (nx3 hK) (hts _ gw4) (by decide +kernel) ⟨(Nat.le_of_ble_eq_true rfl), (Nat.le_of_ble_eq_true rfl)⟩, rfl, hts _ gw75⟩ (xpreS hK (hP.sub (ws' := [(q_3, .inr (11, [.null, .int 0]))]) [1] rfl) (hD.sub (ws' := [(q_3, .inr (11, [.null, .int 0]))]) [1] (by decide) rfl)) rfl rfl hl.1 rfl (lv_room (Nat.le_of_ble_eq_true rfl)) dX10_init_20 ⟨(Nat.le_of_ble_eq_true rfl), (Nat.le_of_ble_eq_true rfl)⟩) hP hD hS hA [1] [0] rfl rfl (by decide) (by decide) (fun u_4 H locs hw_u_4 hP hD hS => ?_)
  have hP : va_P D vwCl [(h, .inr (10, [.ref q_1, .null, .int 0, .int 0, .int 0, .int 0]))] H := hP
  have hD : va_D A [(h, .inr (10, [.ref q_1, .null, .int 0, .int 0, .int 0, .int 0]))] := hD
  refine W.widen (k := 4) (n := 34) (Nat.le_of_ble_eq_true rfl) (Nat.le_of_ble_eq_true rfl) ?_
  refine va_putF (D := D) (ci := 10) (v := .ref q_3) (ty := tyX10 1) (C := RX10) (T := TX10) (N := 6) hx hb hts iG10 tyX10 tyX10_ok nmX10 hown hK.1 hP hD hS 0 rfl rfl 1 (by decide) (hts _ gw103) (fun _ h9 => h9) rfl hin rfl (by decide +kernel) rfl rfl (Nat.le_of_ble_eq_true rfl) dX10_init_23 (fun H locs hP hD hS => ?_)
  have hP : va_P D vwCl [(h, .inr (10, [.ref q_1, .ref q_3, .int 0, .int 0, .int 0, .int 0]))] H := hP
  have hD : va_D A [(h, .inr (10, [.ref q_1, .ref q_3, .int 0, .int 0, .int 0, .int 0]))] := hD
  refine lv_aload_n hx hb dX10_init_26 rfl (lv_at hl 0 rfl) ?_
  refine lv_iconst (v := 0) hx hb dX10_init_27 (by decide) ?_
  refine va_put (D := D) (ci := 10) (v := .int 0) (ty := .int) (C := RX10) (T := TX10) (N := 6) hx hb hts iG10 tyX10 tyX10_ok nmX10 hown hK.1 hP hD hS 0 rfl rfl 2 (by decide) (hts _ gw106) (fun _ h9 => h9) rfl (by decide +kernel) rfl rfl (Nat.le_of_ble_eq_true rfl) dX10_init_28 (fun H locs hP hD hS => ?_)
  have hP : va_P D vwCl [(h, .inr (10, [.ref q_1, .ref q_3, .int 0, .int 0, .int 0, .int 0]))] H := hP
  have hD : va_D A [(h, .inr (10, [.ref q_1, .ref q_3, .int 0, .int 0, .int 0, .int 0]))] := hD
  refine lv_aload_n hx hb dX10_init_31 rfl (lv_at hl 0 rfl) ?_
  refine lv_iconst (v := 0) hx hb dX10_init_32 (by decide) ?_
  refine va_put (D := D) (ci := 10) (v := .int 0) (ty := .int) (C := RX10) (T := TX10) (N := 6) hx hb hts iG10 tyX10 tyX10_ok nmX10 hown hK.1 hP hD hS 0 rfl rfl 3 (by decide) (hts _ gw111) (fun _ h9 => h9) rfl (by decide +kernel) rfl rfl (Nat.le_of_ble_eq_true rfl) dX10_init_33 (fun H locs hP hD hS => ?_)
  have hP : va_P D vwCl [(h, .inr (10, [.ref q_1, .ref q_3, .int 0, .int 0, .int 0, .int 0]))] H := hP
  have hD : va_D A [(h, .inr (10, [.ref q_1, .ref q_3, .int 0, .int 0, .int 0, .int 0]))] := hD
  refine lv_aload_n hx hb dX10_init_36 rfl (lv_at hl 0 rfl) ?_
  refine lv_iconst (v := 0) hx hb dX10_init_37 (by decide) ?_
  refine va_put (D := D) (ci := 10) (v := .int 0) (ty := .int) (C := RX10) (T := TX10) (N := 6) hx hb hts iG10 tyX10 tyX10_ok nmX10 hown hK.1 hP hD hS 0 rfl rfl 4 (by decide) (hts _ gw115) (fun _ h9 => h9) rfl (by decide +kernel) rfl rfl (Nat.le_of_ble_eq_true rfl) dX10_init_38 (fun H locs hP hD hS => ?_)
  have hP : va_P D vwCl [(h, .inr (10, [.ref q_1, .ref q_3, .int 0, .int 0, .int 0, .int 0]))] H := hP
  have hD : va_D A [(h, .inr (10, [.ref q_1, .ref q_3, .int 0, .int 0, .int 0, .int 0]))] := hD
  refine lv_aload_n hx hb dX10_init_41 rfl (lv_at hl 0 rfl) ?_
  refine lv_iconst (v := 0) hx hb dX10_init_42 (by decide) ?_
  refine va_put (D := D) (ci := 10) (v := .int 0) (ty := .boolean) (C := RX10) (T := TX10) (N := 6) hx hb hts iG10 tyX10 tyX10_ok nmX10 hown hK.1 hP hD hS 0 rfl rfl 5 (by decide) (hts _ gw119) (fun _ h9 => h9) rfl (by decide +kernel) rfl rfl (Nat.le_of_ble_eq_true rfl) dX10_init_43 (fun H locs hP hD hS => ?_)
  have hP : va_P D vwCl [(h, .inr (10, [.ref q_1, .ref q_3, .int 0, .int 0, .int 0, .int 0]))] H := hP
  have hD : va_D A [(h, .inr (10, [.ref q_1, .ref q_3, .int 0, .int 0, .int 0, .int 0]))] := hD
  have hP9 := hP.sub (ws' := [(h, .inr (10, [.ref q_1, .ref q_3, .int 0, .int 0, .int 0, .int 0]))]) [0] rfl
  have hD9 := hD.sub (ws' := [(h, .inr (10, [.ref q_1, .ref q_3, .int 0, .int 0, .int 0, .int 0]))]) [0] (by decide) rfl
  refine W.widen (k := 4) (n := 34) (Nat.le_of_ble_eq_true rfl) (Nat.le_of_ble_eq_true rfl) ?_
  exact W.vret hx hb hr (fun t ht hW => ⟨⟨(q_1, q_3), rfl, trivial, by rw [ht]; exact hP9, hD9⟩, hS.F ht⟩) hS.2.2 dX10_init_46
set_option maxHeartbeats 4000000 in
set_option maxRecDepth 100000 in
theorem c_Entry_init (l : Launch) (D : va_G) (cy : Nat → ClassId) (h : Nat) : xMv l D cy yX2_init cX2_init 1 ({ frames := 2, cells := 4, slots := 34, locals := 32 }) [.ref h] [(h, .inr (2, [.null, .null, .int 0, .int 0, .int 0, .int 0, .long 0, .long 0, .long 0, .int 0]))] (S := Nat × Nat) (fun _ => True) (fun u => [(h, .inr (2, [.ref u.1, .ref u.2, .int 0, .int 0, .int 0, .int 0, .long 0, .long 0, .long 0, .int 0]))]) := by
  intro sz
  refine Met.ofW (cc := cX2_init) (maxL := 1) (ret := none) (by decide) rfl ?_
  intro p e s m args below meth c s₁ B hml hv
  obtain ⟨rfl, hsz, hP, hK, hD0⟩ := hv
  have hx := B.exec
  have hb := B.bytes
  have hr := B.returns
  have hts0 := atoms_spec (ws := xw yX2_init cX2_init 1 none) B.pre
  have hts : ∀ w ∈ xG, w.before _ s = true := fun w h => hts0 w (List.mem_cons_of_mem _ h)
  have hown : s.vm.findClass RX2 = some m.cls := findClass_of_methodNamed B.named
  have hlocks := B.notSynchronized
  have hin : meth.name = "<init>" := (name_of_methodNamed B.named B.method).1
  subst hsz
  have hD := hD0.self (sz := s.heap.size)
  generalize hAe : va_A [(h, .inr (2, [.null, .null, .int 0, .int 0, .int 0, .int 0, .long 0, .long 0, .long 0, .int 0]))] s.heap.size = A at hD ⊢
  have hA : ∀ q : Nat, s.heap.size ≤ q → A q := fun q h => by rw [← hAe]; exact Or.inr h
  have hS : va_S A s.heap s.heap [] := va_S.rf
  have hl := lv_entry ([.ref h]) (n := 1) (Nat.le_of_ble_eq_true rfl)
  rw [lg_entry_eq]
  generalize (lg_sl ([.ref h]) ++ List.replicate (1 - (lg_sl ([.ref h])).length) Slot.unset).toArray = ls at hl ⊢
  have hl : lv_has ls 1 [(0, .ref h)] := hl
  refine lv_aload_n hx hb dX2_init_0 rfl (lv_at hl 0 rfl) ?_
  refine W.objInit hx hb hown (hts _ gw263) (hts _ gw27) (hts _ gw28) rfl (by rw [hml]; exact hl.1) rfl dX2_init_1 (Nat.le_of_ble_eq_true rfl) (Nat.le_of_ble_eq_true rfl) ?_
  refine W.eq (g2 := F0 m 4 ls []) rfl ?_
  refine lv_aload_n hx hb dX2_init_4 rfl (lv_at hl 0 rfl) ?_
  refine va_new (ci := 11) (fs := df11) (C := RX11) (T := TX11) (N := 2) hx hb hts iG11 tyX11 tyX11_ok hown (hts _ gw264) (hts _ gw73) (hts _ gw4) hK.1 hP hD hS hA rfl nf11 (Nat.le_of_ble_eq_true rfl) (Nat.le_of_ble_eq_true rfl) dX2_init_5 (fun q_1 H hP hD hS => ?_)
  have hP : va_P D vwCl [(h, .inr (2, [.null, .null, .int 0, .int 0, .int 0, .int 0, .long 0, .long 0, .long 0, .int 0])), (q_1, .inr (11, [.null, .int 0]))] H := hP
  have hD : va_D A [(h, .inr (2, [.null, .null, .int 0, .int 0, .int 0, .int 0, .long 0, .long 0, .long 0, .int 0])), (q_1, .inr (11, [.null, .int 0]))] := hD
  refine W.widen (k := 1) (n := 2) (Nat.le_of_ble_eq_true rfl) (Nat.le_of_ble_eq_true rfl) ?_
  refine lv_dup hx hb dX2_init_8 rfl ?_
  refine x_callv [(q_1, .inr (11, [.null, .int 0]))] [(h, .inr (2, [.null, .null, .int 0, .int 0, .int 0, .int 0, .long 0, .long 0, .long 0, .int 0]))] (va_runIN (As := []) (rest := [.ref q_1, .ref h]) ⟨hx, hb, hml, hown, hts⟩ (c_Word_init l D cy q_1 H.size) ⟨va_cnB 0 hts (xw_good gw76) rfl rfl rfl (nx8 hK) (hts _ gw4) (by decide +kernel) ⟨(Nat.le_of_ble_eq_true rfl), (Nat.le_of_ble_eq_true rfl)⟩, rfl, hts _ gw75⟩ (xpreS hK (hP.sub (ws' := [(q_1, .inr (11, [.null, .int 0]))]) [1] rfl) (hD.sub (ws' := [(q_1, .inr (11, [.null, .int 0]))]) [1] (by decide) rfl)) rfl rfl hl.1 rfl (lv_room (Nat.le_of_ble_eq_true rfl)) dX2_init_9 ⟨(Nat.le_of_ble_eq_true rfl), (Nat.le_of_ble_eq_true rfl)⟩) hP hD hS hA [1] [0] rfl rfl (by decide) (by decide) (fun u_2 H locs hw_u_2 hP hD hS => ?_)
  have hP : va_P D vwCl [(h, .inr (2, [.null, .null, .int 0, .int 0, .int 0, .int 0, .long 0, .long 0, .long 0, .int 0]))] H := hP
  have hD : va_D A [(h, .inr (2, [.null, .null, .int 0, .int 0, .int 0, .int 0, .long 0, .long 0, .long 0, .int 0]))] := hD
  refine W.widen (k := 2) (n := 17) (Nat.le_of_ble_eq_true rfl) (Nat.le_of_ble_eq_true rfl) ?_
  refine va_putF (D := D) (ci := 2) (v := .ref q_1) (ty := tyX2 0) (C := RX2) (T := TX2) (N := 10) hx hb hts iG2 tyX2 tyX2_ok nmX2 hown hK.1 hP hD hS 0 rfl rfl 0 (by decide) (hts _ gw266) (fun _ h9 => h9) rfl hin rfl (by decide +kernel) rfl rfl (Nat.le_of_ble_eq_true rfl) dX2_init_12 (fun H locs hP hD hS => ?_)
  have hP : va_P D vwCl [(h, .inr (2, [.ref q_1, .null, .int 0, .int 0, .int 0, .int 0, .long 0, .long 0, .long 0, .int 0]))] H := hP
  have hD : va_D A [(h, .inr (2, [.ref q_1, .null, .int 0, .int 0, .int 0, .int 0, .long 0, .long 0, .long 0, .int 0]))] := hD
  refine lv_aload_n hx hb dX2_init_15 rfl (lv_at hl 0 rfl) ?_
  refine va_new (ci := 11) (fs := df11) (C := RX11) (T := TX11) (N := 2) hx hb hts iG11 tyX11 tyX11_ok hown (hts _ gw264) (hts _ gw73) (hts _ gw4) hK.1 hP hD hS hA rfl nf11 (Nat.le_of_ble_eq_true rfl) (Nat.le_of_ble_eq_true rfl) dX2_init_16 (fun q_3 H hP hD hS => ?_)
  have hP : va_P D vwCl [(h, .inr (2, [.ref q_1, .null, .int 0, .int 0, .int 0, .int 0, .long 0, .long 0, .long 0, .int 0])), (q_3, .inr (11, [.null, .int 0]))] H := hP
  have hD : va_D A [(h, .inr (2, [.ref q_1, .null, .int 0, .int 0, .int 0, .int 0, .long 0, .long 0, .long 0, .int 0])), (q_3, .inr (11, [.null, .int 0]))] := hD
  refine W.widen (k := 3) (n := 19) (Nat.le_of_ble_eq_true rfl) (Nat.le_of_ble_eq_true rfl) ?_
  refine lv_dup hx hb dX2_init_19 rfl ?_
  refine x_callv [(q_3, .inr (11, [.null, .int 0]))] [(h, .inr (2, [.ref q_1, .null, .int 0, .int 0, .int 0, .int 0, .long 0, .long 0, .long 0, .int 0]))] (va_runIN (As := []) (rest := [.ref q_3, .ref h]) ⟨hx, hb, hml, hown, hts⟩ (c_Word_init l D cy q_3 H.size) ⟨va_cnB 0 hts (xw_good gw76) rfl rfl rfl (nx8 hK) (hts _ gw4) (by decide +kernel) ⟨(Nat.le_of_ble_eq_true rfl), (Nat.le_of_ble_eq_true rfl)⟩, rfl, hts _ gw75⟩ (xpreS hK (hP.sub (ws' := [(q_3, .inr (11, [.null, .int 0]))]) [1] rfl) (hD.sub (ws' := [(q_3, .inr (11, [.null, .int 0]))]) [1] (by decide) rfl)) rfl rfl hl.1 rfl (lv_room (Nat.le_of_ble_eq_true rfl)) dX2_init_20 ⟨(Nat.le_of_ble_eq_true rfl), (Nat.le_of_ble_eq_true rfl)⟩) hP hD hS hA [1] [0] rfl rfl (by decide) (by decide) (fun u_4 H locs hw_u_4 hP hD hS => ?_)
  have hP : va_P D vwCl [(h, .inr (2, [.ref q_1, .null, .int 0, .int 0, .int 0, .int 0, .long 0, .long 0, .long 0, .int 0]))] H := hP
  have hD : va_D A [(h, .inr (2, [.ref q_1, .null, .int 0, .int 0, .int 0, .int 0, .long 0, .long 0, .long 0, .int 0]))] := hD
  refine W.widen (k := 4) (n := 34) (Nat.le_of_ble_eq_true rfl) (Nat.le_of_ble_eq_true rfl) ?_
  refine va_putF (D := D) (ci := 2) (v := .ref q_3) (ty := tyX2 1) (C := RX2) (T := TX2) (N := 10) hx hb hts iG2 tyX2 tyX2_ok nmX2 hown hK.1 hP hD hS 0 rfl rfl 1 (by decide) (hts _ gw268) (fun _ h9 => h9) rfl hin rfl (by decide +kernel) rfl rfl (Nat.le_of_ble_eq_true rfl) dX2_init_23 (fun H locs hP hD hS => ?_)
  have hP : va_P D vwCl [(h, .inr (2, [.ref q_1, .ref q_3, .int 0, .int 0, .int 0, .int 0, .long 0, .long 0, .long 0, .int 0]))] H := hP
  have hD : va_D A [(h, .inr (2, [.ref q_1, .ref q_3, .int 0, .int 0, .int 0, .int 0, .long 0, .long 0, .long 0, .int 0]))] := hD
  refine lv_aload_n hx hb dX2_init_26 rfl (lv_at hl 0 rfl) ?_
  refine lv_iconst (v := 0) hx hb dX2_init_27 (by decide) ?_
  refine va_put (D := D) (ci := 2) (v := .int 0) (ty := .int) (C := RX2) (T := TX2) (N := 10) hx hb hts iG2 tyX2 tyX2_ok nmX2 hown hK.1 hP hD hS 0 rfl rfl 2 (by decide) (hts _ gw270) (fun _ h9 => h9) rfl (by decide +kernel) rfl rfl (Nat.le_of_ble_eq_true rfl) dX2_init_28 (fun H locs hP hD hS => ?_)
  have hP : va_P D vwCl [(h, .inr (2, [.ref q_1, .ref q_3, .int 0, .int 0, .int 0, .int 0, .long 0, .long 0, .long 0, .int 0]))] H := hP
  have hD : va_D A [(h, .inr (2, [.ref q_1, .ref q_3, .int 0, .int 0, .int 0, .int 0, .long 0, .long 0, .long 0, .int 0]))] := hD
  refine lv_aload_n hx hb dX2_init_31 rfl (lv_at hl 0 rfl) ?_
  refine lv_iconst (v := 0) hx hb dX2_init_32 (by decide) ?_
  refine va_put (D := D) (ci := 2) (v := .int 0) (ty := .int) (C := RX2) (T := TX2) (N := 10) hx hb hts iG2 tyX2 tyX2_ok nmX2 hown hK.1 hP hD hS 0 rfl rfl 3 (by decide) (hts _ gw272) (fun _ h9 => h9) rfl (by decide +kernel) rfl rfl (Nat.le_of_ble_eq_true rfl) dX2_init_33 (fun H locs hP hD hS => ?_)
  have hP : va_P D vwCl [(h, .inr (2, [.ref q_1, .ref q_3, .int 0, .int 0, .int 0, .int 0, .long 0, .long 0, .long 0, .int 0]))] H := hP
  have hD : va_D A [(h, .inr (2, [.ref q_1, .ref q_3, .int 0, .int 0, .int 0, .int 0, .long 0, .long 0, .long 0, .int 0]))] := hD
  refine lv_aload_n hx hb dX2_init_36 rfl (lv_at hl 0 rfl) ?_
  refine lv_iconst (v := 0) hx hb dX2_init_37 (by decide) ?_
  refine va_put (D := D) (ci := 2) (v := .int 0) (ty := .int) (C := RX2) (T := TX2) (N := 10) hx hb hts iG2 tyX2 tyX2_ok nmX2 hown hK.1 hP hD hS 0 rfl rfl 4 (by decide) (hts _ gw274) (fun _ h9 => h9) rfl (by decide +kernel) rfl rfl (Nat.le_of_ble_eq_true rfl) dX2_init_38 (fun H locs hP hD hS => ?_)
  have hP : va_P D vwCl [(h, .inr (2, [.ref q_1, .ref q_3, .int 0, .int 0, .int 0, .int 0, .long 0, .long 0, .long 0, .int 0]))] H := hP
  have hD : va_D A [(h, .inr (2, [.ref q_1, .ref q_3, .int 0, .int 0, .int 0, .int 0, .long 0, .long 0, .long 0, .int 0]))] := hD
  refine lv_aload_n hx hb dX2_init_41 rfl (lv_at hl 0 rfl) ?_
  refine lv_iconst (v := 0) hx hb dX2_init_42 (by decide) ?_
  refine va_put (D := D) (ci := 2) (v := .int 0) (ty := .int) (C := RX2) (T := TX2) (N := 10) hx hb hts iG2 tyX2 tyX2_ok nmX2 hown hK.1 hP hD hS 0 rfl rfl 5 (by decide) (hts _ gw275) (fun _ h9 => h9) rfl (by decide +kernel) rfl rfl (Nat.le_of_ble_eq_true rfl) dX2_init_43 (fun H locs hP hD hS => ?_)
  have hP : va_P D vwCl [(h, .inr (2, [.ref q_1, .ref q_3, .int 0, .int 0, .int 0, .int 0, .long 0, .long 0, .long 0, .int 0]))] H := hP
  have hD : va_D A [(h, .inr (2, [.ref q_1, .ref q_3, .int 0, .int 0, .int 0, .int 0, .long 0, .long 0, .long 0, .int 0]))] := hD
  refine lv_aload_n hx hb dX2_init_46 rfl (lv_at hl 0 rfl) ?_
  refine lv_lconst (v := 0) hx hb dX2_init_47 (by decide) ?_
  refine va_put (D := D) (ci := 2) (v := .long 0) (ty := .long) (C := RX2) (T := TX2) (N := 10) hx hb hts iG2 tyX2 tyX2_ok nmX2 hown hK.1 hP hD hS 0 rfl rfl 6 (by decide) (hts _ gw276) (fun _ h9 => h9) rfl (by decide +kernel) rfl rfl (Nat.le_of_ble_eq_true rfl) dX2_init_48 (fun H locs hP hD hS => ?_)
  have hP : va_P D vwCl [(h, .inr (2, [.ref q_1, .ref q_3, .int 0, .int 0, .int 0, .int 0, .long 0, .long 0, .long 0, .int 0]))] H := hP
  have hD : va_D A [(h, .inr (2, [.ref q_1, .ref q_3, .int 0, .int 0, .int 0, .int 0, .long 0, .long 0, .long 0, .int 0]))] := hD
  refine lv_aload_n hx hb dX2_init_51 rfl (lv_at hl 0 rfl) ?_
  refine lv_lconst (v := 0) hx hb dX2_init_52 (by decide) ?_
  refine va_put (D := D) (ci := 2) (v := .long 0) (ty := .long) (C := RX2) (T := TX2) (N := 10) hx hb hts iG2 tyX2 tyX2_ok nmX2 hown hK.1 hP hD hS 0 rfl rfl 7 (by decide) (hts _ gw278) (fun _ h9 => h9) rfl (by decide +kernel) rfl rfl (Nat.le_of_ble_eq_true rfl) dX2_init_53 (fun H locs hP hD hS => ?_)
  have hP : va_P D vwCl [(h, .inr (2, [.ref q_1, .ref q_3, .int 0, .int 0, .int 0, .int 0, .long 0, .long 0, .long 0, .int 0]))] H := hP
  have hD : va_D A [(h, .inr (2, [.ref q_1, .ref q_3, .int 0, .int 0, .int 0, .int 0, .long 0, .long 0, .long 0, .int 0]))] := hD
  refine lv_aload_n hx hb dX2_init_56 rfl (lv_at hl 0 rfl) ?_
  refine lv_lconst (v := 0) hx hb dX2_init_57 (by decide) ?_
  refine va_put (D := D) (ci := 2) (v := .long 0) (ty := .long) (C := RX2) (T := TX2) (N := 10) hx hb hts iG2 tyX2 tyX2_ok nmX2 hown hK.1 hP hD hS 0 rfl rfl 8 (by decide) (hts _ gw280) (fun _ h9 => h9) rfl (by decide +kernel) rfl rfl (Nat.le_of_ble_eq_true rfl) dX2_init_58 (fun H locs hP hD hS => ?_)
  have hP : va_P D vwCl [(h, .inr (2, [.ref q_1, .ref q_3, .int 0, .int 0, .int 0, .int 0, .long 0, .long 0, .long 0, .int 0]))] H := hP
  have hD : va_D A [(h, .inr (2, [.ref q_1, .ref q_3, .int 0, .int 0, .int 0, .int 0, .long 0, .long 0, .long 0, .int 0]))] := hD
  refine lv_aload_n hx hb dX2_init_61 rfl (lv_at hl 0 rfl) ?_
  refine lv_iconst (v := 0) hx hb dX2_init_62 (by decide) ?_
  refine va_put (D := D) (ci := 2) (v := .int 0) (ty := .boolean) (C := RX2) (T := TX2) (N := 10) hx hb hts iG2 tyX2 tyX2_ok nmX2 hown hK.1 hP hD hS 0 rfl rfl 9 (by decide) (hts _ gw283) (fun _ h9 => h9) rfl (by decide +kernel) rfl rfl (Nat.le_of_ble_eq_true rfl) dX2_init_63 (fun H locs hP hD hS => ?_)
  have hP : va_P D vwCl [(h, .inr (2, [.ref q_1, .ref q_3, .int 0, .int 0, .int 0, .int 0, .long 0, .long 0, .long 0, .int 0]))] H := hP
  have hD : va_D A [(h, .inr (2, [.ref q_1, .ref q_3, .int 0, .int 0, .int 0, .int 0, .long 0, .long 0, .long 0, .int 0]))] := hD
  have hP9 := hP.sub (ws' := [(h, .inr (2, [.ref q_1, .ref q_3, .int 0, .int 0, .int 0, .int 0, .long 0, .long 0, .long 0, .int 0]))]) [0] rfl
  have hD9 := hD.sub (ws' := [(h, .inr (2, [.ref q_1, .ref q_3, .int 0, .int 0, .int 0, .int 0, .long 0, .long 0, .long 0, .int 0]))]) [0] (by decide) rfl
  refine W.widen (k := 4) (n := 34) (Nat.le_of_ble_eq_true rfl) (Nat.le_of_ble_eq_true rfl) ?_
  exact W.vret hx hb hr (fun t ht hW => ⟨⟨(q_1, q_3), rfl, trivial, by rw [ht]; exact hP9, hD9⟩, hS.F ht⟩) hS.2.2 dX2_init_66
set_option maxHeartbeats 4000000 in
set_option maxRecDepth 100000 in
theorem c_Service_init (l : Launch) (D : va_G) (cy : Nat → ClassId) (h : Nat) : xMv l D cy yX9_init cX9_init 1 ({ frames := 2, cells := 2, slots := 17, locals := 32 }) [.ref h] [(h, .inr (9, [.null, .int 0]))] (S := Nat) (fun _ => True) (fun u => [(h, .inr (9, [.ref u, .int 0]))]) := by
  intro sz
  refine Met.ofW (cc := cX9_init) (maxL := 1) (ret := none) (by decide) rfl ?_
  intro p e s m args below meth c s₁ B hml hv
  obtain ⟨rfl, hsz, hP, hK, hD0⟩ := hv
  have hx := B.exec
  have hb := B.bytes
  have hr := B.returns
  have hts0 := atoms_spec (ws := xw yX9_init cX9_init 1 none) B.pre
  have hts : ∀ w ∈ xG, w.before _ s = true := fun w h => hts0 w (List.mem_cons_of_mem _ h)
  have hown : s.vm.findClass RX9 = some m.cls := findClass_of_methodNamed B.named
  have hlocks := B.notSynchronized
  have hin : meth.name = "<init>" := (name_of_methodNamed B.named B.method).1
  subst hsz
  have hD := hD0.self (sz := s.heap.size)
  generalize hAe : va_A [(h, .inr (9, [.null, .int 0]))] s.heap.size = A at hD ⊢
  have hA : ∀ q : Nat, s.heap.size ≤ q → A q := fun q h => by rw [← hAe]; exact Or.inr h
  have hS : va_S A s.heap s.heap [] := va_S.rf
  have hl := lv_entry ([.ref h]) (n := 1) (Nat.le_of_ble_eq_true rfl)
  rw [lg_entry_eq]
  generalize (lg_sl ([.ref h]) ++ List.replicate (1 - (lg_sl ([.ref h])).length) Slot.unset).toArray = ls at hl ⊢
  have hl : lv_has ls 1 [(0, .ref h)] := hl
  refine lv_aload_n hx hb dX9_init_0 rfl (lv_at hl 0 rfl) ?_
  refine W.objInit hx hb hown (hts _ gw320) (hts _ gw27) (hts _ gw28) rfl (by rw [hml]; exact hl.1) rfl dX9_init_1 (Nat.le_of_ble_eq_true rfl) (Nat.le_of_ble_eq_true rfl) ?_
  refine W.eq (g2 := F0 m 4 ls []) rfl ?_
  refine lv_aload_n hx hb dX9_init_4 rfl (lv_at hl 0 rfl) ?_
  refine va_new (ci := 11) (fs := df11) (C := RX11) (T := TX11) (N := 2) hx hb hts iG11 tyX11 tyX11_ok hown (hts _ gw321) (hts _ gw73) (hts _ gw4) hK.1 hP hD hS hA rfl nf11 (Nat.le_of_ble_eq_true rfl) (Nat.le_of_ble_eq_true rfl) dX9_init_5 (fun q_1 H hP hD hS => ?_)
  have hP : va_P D vwCl [(h, .inr (9, [.null, .int 0])), (q_1, .inr (11, [.null, .int 0]))] H := hP
  have hD : va_D A [(h, .inr (9, [.null, .int 0])), (q_1, .inr (11, [.null, .int 0]))] := hD
  refine W.widen (k := 1) (n := 2) (Nat.le_of_ble_eq_true rfl) (Nat.le_of_ble_eq_true rfl) ?_
  refine lv_dup hx hb dX9_init_8 rfl ?_
  refine x_callv [(q_1, .inr (11, [.null, .int 0]))] [(h, .inr (9, [.null, .int 0]))] (va_runIN (As := []) (rest := [.ref q_1, .ref h]) ⟨hx, hb, hml, hown, hts⟩ (c_Word_init l D cy q_1 H.size) ⟨va_cnB 0 hts (xw_good gw76) rfl rfl rfl (nx10 hK) (hts _ gw4) (by decide +kernel) ⟨(Nat.le_of_ble_eq_true rfl), (Nat.le_of_ble_eq_true rfl)⟩, rfl, hts _ gw75⟩ (xpreS hK (hP.sub (ws' := [(q_1, .inr (11, [.null, .int 0]))]) [1] rfl) (hD.sub (ws' := [(q_1, .inr (11, [.null, .int 0]))]) [1] (by decide) rfl)) rfl rfl hl.1 rfl (lv_room (Nat.le_of_ble_eq_true rfl)) dX9_init_9 ⟨(Nat.le_of_ble_eq_true rfl), (Nat.le_of_ble_eq_true rfl)⟩) hP hD hS hA [1] [0] rfl rfl (by decide) (by decide) (fun u_2 H locs hw_u_2 hP hD hS => ?_)
  have hP : va_P D vwCl [(h, .inr (9, [.null, .int 0]))] H := hP
  have hD : va_D A [(h, .inr (9, [.null, .int 0]))] := hD
  refine W.widen (k := 2) (n := 17) (Nat.le_of_ble_eq_true rfl) (Nat.le_of_ble_eq_true rfl) ?_
  refine va_putF (D := D) (ci := 9) (v := .ref q_1) (ty := tyX9 0) (C := RX9) (T := TX9) (N := 2) hx hb hts iG9 tyX9 tyX9_ok nmX9 hown hK.1 hP hD hS 0 rfl rfl 0 (by decide) (hts _ gw323) (fun _ h9 => h9) rfl hin rfl (by decide +kernel) rfl rfl (Nat.le_of_ble_eq_true rfl) dX9_init_12 (fun H locs hP hD hS => ?_)
  have hP : va_P D vwCl [(h, .inr (9, [.ref q_1, .int 0]))] H := hP
  have hD : va_D A [(h, .inr (9, [.ref q_1, .int 0]))] := hD
  refine lv_aload_n hx hb dX9_init_15 rfl (lv_at hl 0 rfl) ?_
  refine lv_iconst (v := 0) hx hb dX9_init_16 (by decide) ?_
  refine va_put (D := D) (ci := 9) (v := .int 0) (ty := .int) (C := RX9) (T := TX9) (N := 2) hx hb hts iG9 tyX9 tyX9_ok nmX9 hown hK.1 hP hD hS 0 rfl rfl 1 (by decide) (hts _ gw327) (fun _ h9 => h9) rfl (by decide +kernel) rfl rfl (Nat.le_of_ble_eq_true rfl) dX9_init_17 (fun H locs hP hD hS => ?_)
  have hP : va_P D vwCl [(h, .inr (9, [.ref q_1, .int 0]))] H := hP
  have hD : va_D A [(h, .inr (9, [.ref q_1, .int 0]))] := hD
  have hP9 := hP.sub (ws' := [(h, .inr (9, [.ref q_1, .int 0]))]) [0] rfl
  have hD9 := hD.sub (ws' := [(h, .inr (9, [.ref q_1, .int 0]))]) [0] (by decide) rfl
  refine W.widen (k := 2) (n := 17) (Nat.le_of_ble_eq_true rfl) (Nat.le_of_ble_eq_true rfl) ?_
  exact W.vret hx hb hr (fun t ht hW => ⟨⟨q_1, rfl, trivial, by rw [ht]; exact hP9, hD9⟩, hS.F ht⟩) hS.2.2 dX9_init_20
set_option maxHeartbeats 4000000 in
set_option maxRecDepth 100000 in
theorem c_Reply_init (l : Launch) (D : va_G) (cy : Nat → ClassId) (h : Nat) : xMv l D cy yX8_init cX8_init 1 ({ frames := 2, cells := 2, slots := 17, locals := 32 }) [.ref h] [(h, .inr (8, [.null, .long 0]))] (S := Nat) (fun _ => True) (fun u => [(h, .inr (8, [.ref u, .long 0]))]) := by
  intro sz
  refine Met.ofW (cc := cX8_init) (maxL := 1) (ret := none) (by decide) rfl ?_
  intro p e s m args below meth c s₁ B hml hv
  obtain ⟨rfl, hsz, hP, hK, hD0⟩ := hv
  have hx := B.exec
  have hb := B.bytes
  have hr := B.returns
  have hts0 := atoms_spec (ws := xw yX8_init cX8_init 1 none) B.pre
  have hts : ∀ w ∈ xG, w.before _ s = true := fun w h => hts0 w (List.mem_cons_of_mem _ h)
  have hown : s.vm.findClass RX8 = some m.cls := findClass_of_methodNamed B.named
  have hlocks := B.notSynchronized
  have hin : meth.name = "<init>" := (name_of_methodNamed B.named B.method).1
  subst hsz
  have hD := hD0.self (sz := s.heap.size)
  generalize hAe : va_A [(h, .inr (8, [.null, .long 0]))] s.heap.size = A at hD ⊢
  have hA : ∀ q : Nat, s.heap.size ≤ q → A q := fun q h => by rw [← hAe]; exact Or.inr h
  have hS : va_S A s.heap s.heap [] := va_S.rf
  have hl := lv_entry ([.ref h]) (n := 1) (Nat.le_of_ble_eq_true rfl)
  rw [lg_entry_eq]
  generalize (lg_sl ([.ref h]) ++ List.replicate (1 - (lg_sl ([.ref h])).length) Slot.unset).toArray = ls at hl ⊢
  have hl : lv_has ls 1 [(0, .ref h)] := hl
  refine lv_aload_n hx hb dX8_init_0 rfl (lv_at hl 0 rfl) ?_
  refine W.objInit hx hb hown (hts _ gw372) (hts _ gw27) (hts _ gw28) rfl (by rw [hml]; exact hl.1) rfl dX8_init_1 (Nat.le_of_ble_eq_true rfl) (Nat.le_of_ble_eq_true rfl) ?_
  refine W.eq (g2 := F0 m 4 ls []) rfl ?_
  refine lv_aload_n hx hb dX8_init_4 rfl (lv_at hl 0 rfl) ?_
  refine va_new (ci := 11) (fs := df11) (C := RX11) (T := TX11) (N := 2) hx hb hts iG11 tyX11 tyX11_ok hown (hts _ gw373) (hts _ gw73) (hts _ gw4) hK.1 hP hD hS hA rfl nf11 (Nat.le_of_ble_eq_true rfl) (Nat.le_of_ble_eq_true rfl) dX8_init_5 (fun q_1 H hP hD hS => ?_)
  have hP : va_P D vwCl [(h, .inr (8, [.null, .long 0])), (q_1, .inr (11, [.null, .int 0]))] H := hP
  have hD : va_D A [(h, .inr (8, [.null, .long 0])), (q_1, .inr (11, [.null, .int 0]))] := hD
  refine W.widen (k := 1) (n := 2) (Nat.le_of_ble_eq_true rfl) (Nat.le_of_ble_eq_true rfl) ?_
  refine lv_dup hx hb dX8_init_8 rfl ?_
  refine x_callv [(q_1, .inr (11, [.null, .int 0]))] [(h, .inr (8, [.null, .long 0]))] (va_runIN (As := []) (rest := [.ref q_1, .ref h]) ⟨hx, hb, hml, hown, hts⟩ (c_Word_init l D cy q_1 H.size) ⟨va_cnB 0 hts (xw_good gw76) rfl rfl rfl (nx14 hK) (hts _ gw4) (by decide +kernel) ⟨(Nat.le_of_ble_eq_true rfl), (Nat.le_of_ble_eq_true rfl)⟩, rfl, hts _ gw75⟩ (xpreS hK (hP.sub (ws' := [(q_1, .inr (11, [.null, .int 0]))]) [1] rfl) (hD.sub (ws' := [(q_1, .inr (11, [.null, .int 0]))]) [1] (by decide) rfl)) rfl rfl hl.1 rfl (lv_room (Nat.le_of_ble_eq_true rfl)) dX8_init_9 ⟨(Nat.le_of_ble_eq_true rfl), (Nat.le_of_ble_eq_true rfl)⟩) hP hD hS hA [1] [0] rfl rfl (by decide) (by decide) (fun u_2 H locs hw_u_2 hP hD hS => ?_)
  have hP : va_P D vwCl [(h, .inr (8, [.null, .long 0]))] H := hP
  have hD : va_D A [(h, .inr (8, [.null, .long 0]))] := hD
  refine W.widen (k := 2) (n := 17) (Nat.le_of_ble_eq_true rfl) (Nat.le_of_ble_eq_true rfl) ?_
  refine va_putF (D := D) (ci := 8) (v := .ref q_1) (ty := tyX8 0) (C := RX8) (T := TX8) (N := 2) hx hb hts iG8 tyX8 tyX8_ok nmX8 hown hK.1 hP hD hS 0 rfl rfl 0 (by decide) (hts _ gw375) (fun _ h9 => h9) rfl hin rfl (by decide +kernel) rfl rfl (Nat.le_of_ble_eq_true rfl) dX8_init_12 (fun H locs hP hD hS => ?_)
  have hP : va_P D vwCl [(h, .inr (8, [.ref q_1, .long 0]))] H := hP
  have hD : va_D A [(h, .inr (8, [.ref q_1, .long 0]))] := hD
  refine lv_aload_n hx hb dX8_init_15 rfl (lv_at hl 0 rfl) ?_
  refine lv_lconst (v := 0) hx hb dX8_init_16 (by decide) ?_
  refine va_put (D := D) (ci := 8) (v := .long 0) (ty := .long) (C := RX8) (T := TX8) (N := 2) hx hb hts iG8 tyX8 tyX8_ok nmX8 hown hK.1 hP hD hS 0 rfl rfl 1 (by decide) (hts _ gw378) (fun _ h9 => h9) rfl (by decide +kernel) rfl rfl (Nat.le_of_ble_eq_true rfl) dX8_init_17 (fun H locs hP hD hS => ?_)
  have hP : va_P D vwCl [(h, .inr (8, [.ref q_1, .long 0]))] H := hP
  have hD : va_D A [(h, .inr (8, [.ref q_1, .long 0]))] := hD
  have hP9 := hP.sub (ws' := [(h, .inr (8, [.ref q_1, .long 0]))]) [0] rfl
  have hD9 := hD.sub (ws' := [(h, .inr (8, [.ref q_1, .long 0]))]) [0] (by decide) rfl
  refine W.widen (k := 2) (n := 17) (Nat.le_of_ble_eq_true rfl) (Nat.le_of_ble_eq_true rfl) ?_
  exact W.vret hx hb hr (fun t ht hW => ⟨⟨q_1, rfl, trivial, by rw [ht]; exact hP9, hD9⟩, hS.F ht⟩) hS.2.2 dX8_init_20
set_option maxHeartbeats 4000000 in
set_option maxRecDepth 100000 in
theorem c_Question_init (l : Launch) (D : va_G) (cy : Nat → ClassId) (h : Nat) : xMv l D cy yX6_init cX6_init 1 ({ frames := 2, cells := 2, slots := 17, locals := 32 }) [.ref h] [(h, .inr (6, [.null, .int 0, .int 0, .int 0, .long 0]))] (S := Nat) (fun _ => True) (fun u => [(h, .inr (6, [.ref u, .int 0, .int 0, .int 0, .long 0]))]) := by
  intro sz
  refine Met.ofW (cc := cX6_init) (maxL := 1) (ret := none) (by decide) rfl ?_
  intro p e s m args below meth c s₁ B hml hv
  obtain ⟨rfl, hsz, hP, hK, hD0⟩ := hv
  have hx := B.exec
  have hb := B.bytes
  have hr := B.returns
  have hts0 := atoms_spec (ws := xw yX6_init cX6_init 1 none) B.pre
  have hts : ∀ w ∈ xG, w.before _ s = true := fun w h => hts0 w (List.mem_cons_of_mem _ h)
  have hown : s.vm.findClass RX6 = some m.cls := findClass_of_methodNamed B.named
  have hlocks := B.notSynchronized
  have hin : meth.name = "<init>" := (name_of_methodNamed B.named B.method).1
  subst hsz
  have hD := hD0.self (sz := s.heap.size)
  generalize hAe : va_A [(h, .inr (6, [.null, .int 0, .int 0, .int 0, .long 0]))] s.heap.size = A at hD ⊢
  have hA : ∀ q : Nat, s.heap.size ≤ q → A q := fun q h => by rw [← hAe]; exact Or.inr h
  have hS : va_S A s.heap s.heap [] := va_S.rf
  have hl := lv_entry ([.ref h]) (n := 1) (Nat.le_of_ble_eq_true rfl)
  rw [lg_entry_eq]
  generalize (lg_sl ([.ref h]) ++ List.replicate (1 - (lg_sl ([.ref h])).length) Slot.unset).toArray = ls at hl ⊢
  have hl : lv_has ls 1 [(0, .ref h)] := hl
  refine lv_aload_n hx hb dX6_init_0 rfl (lv_at hl 0 rfl) ?_
  refine W.objInit hx hb hown (hts _ gw339) (hts _ gw27) (hts _ gw28) rfl (by rw [hml]; exact hl.1) rfl dX6_init_1 (Nat.le_of_ble_eq_true rfl) (Nat.le_of_ble_eq_true rfl) ?_
  refine W.eq (g2 := F0 m 4 ls []) rfl ?_
  refine lv_aload_n hx hb dX6_init_4 rfl (lv_at hl 0 rfl) ?_
  refine va_new (ci := 11) (fs := df11) (C := RX11) (T := TX11) (N := 2) hx hb hts iG11 tyX11 tyX11_ok hown (hts _ gw340) (hts _ gw73) (hts _ gw4) hK.1 hP hD hS hA rfl nf11 (Nat.le_of_ble_eq_true rfl) (Nat.le_of_ble_eq_true rfl) dX6_init_5 (fun q_1 H hP hD hS => ?_)
  have hP : va_P D vwCl [(h, .inr (6, [.null, .int 0, .int 0, .int 0, .long 0])), (q_1, .inr (11, [.null, .int 0]))] H := hP
  have hD : va_D A [(h, .inr (6, [.null, .int 0, .int 0, .int 0, .long 0])), (q_1, .inr (11, [.null, .int 0]))] := hD
  refine W.widen (k := 1) (n := 2) (Nat.le_of_ble_eq_true rfl) (Nat.le_of_ble_eq_true rfl) ?_
  refine lv_dup hx hb dX6_init_8 rfl ?_
  refine x_callv [(q_1, .inr (11, [.null, .int 0]))] [(h, .inr (6, [.null, .int 0, .int 0, .int 0, .long 0]))] (va_runIN (As := []) (rest := [.ref q_1, .ref h]) ⟨hx, hb, hml, hown, hts⟩ (c_Word_init l D cy q_1 H.size) ⟨va_cnB 0 hts (xw_good gw76) rfl rfl rfl (nx12 hK) (hts _ gw4) (by decide +kernel) ⟨(Nat.le_of_ble_eq_true rfl), (Nat.le_of_ble_eq_true rfl)⟩, rfl, hts _ gw75⟩ (xpreS hK (hP.sub (ws' := [(q_1, .inr (11, [.null, .int 0]))]) [1] rfl) (hD.sub (ws' := [(q_1, .inr (11, [.null, .int 0]))]) [1] (by decide) rfl)) rfl rfl hl.1 rfl (lv_room (Nat.le_of_ble_eq_true rfl)) dX6_init_9 ⟨(Nat.le_of_ble_eq_true rfl), (Nat.le_of_ble_eq_true rfl)⟩) hP hD hS hA [1] [0] rfl rfl (by decide) (by decide) (fun u_2 H locs hw_u_2 hP hD hS => ?_)
  have hP : va_P D vwCl [(h, .inr (6, [.null, .int 0, .int 0, .int 0, .long 0]))] H := hP
  have hD : va_D A [(h, .inr (6, [.null, .int 0, .int 0, .int 0, .long 0]))] := hD
  refine W.widen (k := 2) (n := 17) (Nat.le_of_ble_eq_true rfl) (Nat.le_of_ble_eq_true rfl) ?_
  refine va_putF (D := D) (ci := 6) (v := .ref q_1) (ty := tyX6 0) (C := RX6) (T := TX6) (N := 5) hx hb hts iG6 tyX6 tyX6_ok nmX6 hown hK.1 hP hD hS 0 rfl rfl 0 (by decide) (hts _ gw342) (fun _ h9 => h9) rfl hin rfl (by decide +kernel) rfl rfl (Nat.le_of_ble_eq_true rfl) dX6_init_12 (fun H locs hP hD hS => ?_)
  have hP : va_P D vwCl [(h, .inr (6, [.ref q_1, .int 0, .int 0, .int 0, .long 0]))] H := hP
  have hD : va_D A [(h, .inr (6, [.ref q_1, .int 0, .int 0, .int 0, .long 0]))] := hD
  refine lv_aload_n hx hb dX6_init_15 rfl (lv_at hl 0 rfl) ?_
  refine lv_iconst (v := 0) hx hb dX6_init_16 (by decide) ?_
  refine va_put (D := D) (ci := 6) (v := .int 0) (ty := .boolean) (C := RX6) (T := TX6) (N := 5) hx hb hts iG6 tyX6 tyX6_ok nmX6 hown hK.1 hP hD hS 0 rfl rfl 1 (by decide) (hts _ gw346) (fun _ h9 => h9) rfl (by decide +kernel) rfl rfl (Nat.le_of_ble_eq_true rfl) dX6_init_17 (fun H locs hP hD hS => ?_)
  have hP : va_P D vwCl [(h, .inr (6, [.ref q_1, .int 0, .int 0, .int 0, .long 0]))] H := hP
  have hD : va_D A [(h, .inr (6, [.ref q_1, .int 0, .int 0, .int 0, .long 0]))] := hD
  refine lv_aload_n hx hb dX6_init_20 rfl (lv_at hl 0 rfl) ?_
  refine lv_iconst (v := 0) hx hb dX6_init_21 (by decide) ?_
  refine va_put (D := D) (ci := 6) (v := .int 0) (ty := .int) (C := RX6) (T := TX6) (N := 5) hx hb hts iG6 tyX6 tyX6_ok nmX6 hown hK.1 hP hD hS 0 rfl rfl 2 (by decide) (hts _ gw349) (fun _ h9 => h9) rfl (by decide +kernel) rfl rfl (Nat.le_of_ble_eq_true rfl) dX6_init_22 (fun H locs hP hD hS => ?_)
  have hP : va_P D vwCl [(h, .inr (6, [.ref q_1, .int 0, .int 0, .int 0, .long 0]))] H := hP
  have hD : va_D A [(h, .inr (6, [.ref q_1, .int 0, .int 0, .int 0, .long 0]))] := hD
  refine lv_aload_n hx hb dX6_init_25 rfl (lv_at hl 0 rfl) ?_
  refine lv_iconst (v := 0) hx hb dX6_init_26 (by decide) ?_
  refine va_put (D := D) (ci := 6) (v := .int 0) (ty := .int) (C := RX6) (T := TX6) (N := 5) hx hb hts iG6 tyX6 tyX6_ok nmX6 hown hK.1 hP hD hS 0 rfl rfl 3 (by decide) (hts _ gw353) (fun _ h9 => h9) rfl (by decide +kernel) rfl rfl (Nat.le_of_ble_eq_true rfl) dX6_init_27 (fun H locs hP hD hS => ?_)
  have hP : va_P D vwCl [(h, .inr (6, [.ref q_1, .int 0, .int 0, .int 0, .long 0]))] H := hP
  have hD : va_D A [(h, .inr (6, [.ref q_1, .int 0, .int 0, .int 0, .long 0]))] := hD
  refine lv_aload_n hx hb dX6_init_30 rfl (lv_at hl 0 rfl) ?_
  refine lv_lconst (v := 0) hx hb dX6_init_31 (by decide) ?_
  refine va_put (D := D) (ci := 6) (v := .long 0) (ty := .long) (C := RX6) (T := TX6) (N := 5) hx hb hts iG6 tyX6 tyX6_ok nmX6 hown hK.1 hP hD hS 0 rfl rfl 4 (by decide) (hts _ gw354) (fun _ h9 => h9) rfl (by decide +kernel) rfl rfl (Nat.le_of_ble_eq_true rfl) dX6_init_32 (fun H locs hP hD hS => ?_)
  have hP : va_P D vwCl [(h, .inr (6, [.ref q_1, .int 0, .int 0, .int 0, .long 0]))] H := hP
  have hD : va_D A [(h, .inr (6, [.ref q_1, .int 0, .int 0, .int 0, .long 0]))] := hD
  have hP9 := hP.sub (ws' := [(h, .inr (6, [.ref q_1, .int 0, .int 0, .int 0, .long 0]))]) [0] rfl
  have hD9 := hD.sub (ws' := [(h, .inr (6, [.ref q_1, .int 0, .int 0, .int 0, .long 0]))]) [0] (by decide) rfl
  refine W.widen (k := 2) (n := 17) (Nat.le_of_ble_eq_true rfl) (Nat.le_of_ble_eq_true rfl) ?_
  exact W.vret hx hb hr (fun t ht hW => ⟨⟨q_1, rfl, trivial, by rw [ht]; exact hP9, hD9⟩, hS.F ht⟩) hS.2.2 dX6_init_35
set_option maxHeartbeats 4000000 in
set_option maxRecDepth 100000 in
theorem c_AddressClaim_init (l : Launch) (D : va_G) (cy : Nat → ClassId) (h : Nat) : xMv l D cy yX0_init cX0_init 1 ({ frames := 1, cells := 0, slots := 0, locals := 12 }) [.ref h] [(h, .inr (0, [.int 0, .int 0, .int 0, .long 0, .long 0]))] (S := Unit) (fun _ => True) (fun _ => [(h, .inr (0, [.int 0, .int 0, .int 0, .long 4611686018427387904, .long (-1)]))]) := by
  intro sz
  refine Met.ofW (cc := cX0_init) (maxL := 1) (ret := none) (by decide) rfl ?_
  intro p e s m args below meth c s₁ B hml hv
  obtain ⟨rfl, hsz, hP, hK, hD0⟩ := hv
  have hx := B.exec
  have hb := B.bytes
  have hr := B.returns
  have hts0 := atoms_spec (ws := xw yX0_init cX0_init 1 none) B.pre
  have hts : ∀ w ∈ xG, w.before _ s = true := fun w h => hts0 w (List.mem_cons_of_mem _ h)
  have hown : s.vm.findClass RX0 = some m.cls := findClass_of_methodNamed B.named
  have hlocks := B.notSynchronized
  have hin : meth.name = "<init>" := (name_of_methodNamed B.named B.method).1
  subst hsz
  have hD := hD0.self (sz := s.heap.size)
  generalize hAe : va_A [(h, .inr (0, [.int 0, .int 0, .int 0, .long 0, .long 0]))] s.heap.size = A at hD ⊢
  have hA : ∀ q : Nat, s.heap.size ≤ q → A q := fun q h => by rw [← hAe]; exact Or.inr h
  have hS : va_S A s.heap s.heap [] := va_S.rf
  have hl := lv_entry ([.ref h]) (n := 1) (Nat.le_of_ble_eq_true rfl)
  rw [lg_entry_eq]
  generalize (lg_sl ([.ref h]) ++ List.replicate (1 - (lg_sl ([.ref h])).length) Slot.unset).toArray = ls at hl ⊢
  have hl : lv_has ls 1 [(0, .ref h)] := hl
  refine lv_aload_n hx hb dX0_init_0 rfl (lv_at hl 0 rfl) ?_
  refine W.objInit hx hb hown (hts _ gw182) (hts _ gw27) (hts _ gw28) rfl (by rw [hml]; exact hl.1) rfl dX0_init_1 (Nat.le_of_ble_eq_true rfl) (Nat.le_of_ble_eq_true rfl) ?_
  refine W.eq (g2 := F0 m 4 ls []) rfl ?_
  refine lv_aload_n hx hb dX0_init_4 rfl (lv_at hl 0 rfl) ?_
  refine lv_iconst (v := 0) hx hb dX0_init_5 (by decide) ?_
  refine va_put (D := D) (ci := 0) (v := .int 0) (ty := .int) (C := RX0) (T := TX0) (N := 5) hx hb hts iG0 tyX0 tyX0_ok nmX0 hown hK.1 hP hD hS 0 rfl rfl 0 (by decide) (hts _ gw185) (fun _ h9 => h9) rfl (by decide +kernel) rfl rfl (Nat.le_of_ble_eq_true rfl) dX0_init_6 (fun H locs hP hD hS => ?_)
  have hP : va_P D vwCl [(h, .inr (0, [.int 0, .int 0, .int 0, .long 0, .long 0]))] H := hP
  have hD : va_D A [(h, .inr (0, [.int 0, .int 0, .int 0, .long 0, .long 0]))] := hD
  refine lv_aload_n hx hb dX0_init_9 rfl (lv_at hl 0 rfl) ?_
  refine lv_iconst (v := 0) hx hb dX0_init_10 (by decide) ?_
  refine va_put (D := D) (ci := 0) (v := .int 0) (ty := .int) (C := RX0) (T := TX0) (N := 5) hx hb hts iG0 tyX0 tyX0_ok nmX0 hown hK.1 hP hD hS 0 rfl rfl 1 (by decide) (hts _ gw187) (fun _ h9 => h9) rfl (by decide +kernel) rfl rfl (Nat.le_of_ble_eq_true rfl) dX0_init_11 (fun H locs hP hD hS => ?_)
  have hP : va_P D vwCl [(h, .inr (0, [.int 0, .int 0, .int 0, .long 0, .long 0]))] H := hP
  have hD : va_D A [(h, .inr (0, [.int 0, .int 0, .int 0, .long 0, .long 0]))] := hD
  refine lv_aload_n hx hb dX0_init_14 rfl (lv_at hl 0 rfl) ?_
  refine lv_iconst (v := 0) hx hb dX0_init_15 (by decide) ?_
  refine va_put (D := D) (ci := 0) (v := .int 0) (ty := .int) (C := RX0) (T := TX0) (N := 5) hx hb hts iG0 tyX0 tyX0_ok nmX0 hown hK.1 hP hD hS 0 rfl rfl 2 (by decide) (hts _ gw191) (fun _ h9 => h9) rfl (by decide +kernel) rfl rfl (Nat.le_of_ble_eq_true rfl) dX0_init_16 (fun H locs hP hD hS => ?_)
  have hP : va_P D vwCl [(h, .inr (0, [.int 0, .int 0, .int 0, .long 0, .long 0]))] H := hP
  have hD : va_D A [(h, .inr (0, [.int 0, .int 0, .int 0, .long 0, .long 0]))] := hD
  refine lv_aload_n hx hb dX0_init_19 rfl (lv_at hl 0 rfl) ?_
  refine lv_ldc2 (v := 4611686018427387904) hx hb hown (hts _ gw183) dX0_init_20 ?_
  refine va_put (D := D) (ci := 0) (v := .long 4611686018427387904) (ty := .long) (C := RX0) (T := TX0) (N := 5) hx hb hts iG0 tyX0 tyX0_ok nmX0 hown hK.1 hP hD hS 0 rfl rfl 3 (by decide) (hts _ gw193) (fun _ h9 => h9) rfl (by decide +kernel) rfl rfl (Nat.le_of_ble_eq_true rfl) dX0_init_23 (fun H locs hP hD hS => ?_)
  have hP : va_P D vwCl [(h, .inr (0, [.int 0, .int 0, .int 0, .long 4611686018427387904, .long 0]))] H := hP
  have hD : va_D A [(h, .inr (0, [.int 0, .int 0, .int 0, .long 4611686018427387904, .long 0]))] := hD
  refine lv_aload_n hx hb dX0_init_26 rfl (lv_at hl 0 rfl) ?_
  refine lv_ldc2 (v := (-1)) hx hb hown (hts _ gw184) dX0_init_27 ?_
  refine va_put (D := D) (ci := 0) (v := .long (-1)) (ty := .long) (C := RX0) (T := TX0) (N := 5) hx hb hts iG0 tyX0 tyX0_ok nmX0 hown hK.1 hP hD hS 0 rfl rfl 4 (by decide) (hts _ gw196) (fun _ h9 => h9) rfl (by decide +kernel) rfl rfl (Nat.le_of_ble_eq_true rfl) dX0_init_30 (fun H locs hP hD hS => ?_)
  have hP : va_P D vwCl [(h, .inr (0, [.int 0, .int 0, .int 0, .long 4611686018427387904, .long (-1)]))] H := hP
  have hD : va_D A [(h, .inr (0, [.int 0, .int 0, .int 0, .long 4611686018427387904, .long (-1)]))] := hD
  have hP9 := hP.sub (ws' := [(h, .inr (0, [.int 0, .int 0, .int 0, .long 4611686018427387904, .long (-1)]))]) [0] rfl
  have hD9 := hD.sub (ws' := [(h, .inr (0, [.int 0, .int 0, .int 0, .long 4611686018427387904, .long (-1)]))]) [0] (by decide) rfl
  refine W.widen (k := 0) (n := 0) (Nat.le_of_ble_eq_true rfl) (Nat.le_of_ble_eq_true rfl) ?_
  exact W.vret hx hb hr (fun t ht hW => ⟨⟨(), rfl, trivial, by rw [ht]; exact hP9, hD9⟩, hS.F ht⟩) hS.2.2 dX0_init_33
set_option maxHeartbeats 4000000 in
set_option maxRecDepth 100000 in
theorem c_NameClaim_init (l : Launch) (D : va_G) (cy : Nat → ClassId) (h : Nat) : xMv l D cy yX4_init cX4_init 1 ({ frames := 2, cells := 4, slots := 34, locals := 32 }) [.ref h] [(h, .inr (4, [.null, .null, .int 0, .int 0, .int 0, .long 0]))] (S := Nat × Nat) (fun _ => True) (fun u => [(h, .inr (4, [.ref u.1, .ref u.2, .int 0, .int 1, .int 0, .long 4611686018427387904]))]) := by
  intro sz
  refine Met.ofW (cc := cX4_init) (maxL := 1) (ret := none) (by decide) rfl ?_
  intro p e s m args below meth c s₁ B hml hv
  obtain ⟨rfl, hsz, hP, hK, hD0⟩ := hv
  have hx := B.exec
  have hb := B.bytes
  have hr := B.returns
  have hts0 := atoms_spec (ws := xw yX4_init cX4_init 1 none) B.pre
  have hts : ∀ w ∈ xG, w.before _ s = true := fun w h => hts0 w (List.mem_cons_of_mem _ h)
  have hown : s.vm.findClass RX4 = some m.cls := findClass_of_methodNamed B.named
  have hlocks := B.notSynchronized
  have hin : meth.name = "<init>" := (name_of_methodNamed B.named B.method).1
  subst hsz
  have hD := hD0.self (sz := s.heap.size)
  generalize hAe : va_A [(h, .inr (4, [.null, .null, .int 0, .int 0, .int 0, .long 0]))] s.heap.size = A at hD ⊢
  have hA : ∀ q : Nat, s.heap.size ≤ q → A q := fun q h => by rw [← hAe]; exact Or.inr h
  have hS : va_S A s.heap s.heap [] := va_S.rf
  have hl := lv_entry ([.ref h]) (n := 1) (Nat.le_of_ble_eq_true rfl)
  rw [lg_entry_eq]
  generalize (lg_sl ([.ref h]) ++ List.replicate (1 - (lg_sl ([.ref h])).length) Slot.unset).toArray = ls at hl ⊢
  have hl : lv_has ls 1 [(0, .ref h)] := hl
  refine lv_aload_n hx hb dX4_init_0 rfl (lv_at hl 0 rfl) ?_
  refine W.objInit hx hb hown (hts _ gw214) (hts _ gw27) (hts _ gw28) rfl (by rw [hml]; exact hl.1) rfl dX4_init_1 (Nat.le_of_ble_eq_true rfl) (Nat.le_of_ble_eq_true rfl) ?_
  refine W.eq (g2 := F0 m 4 ls []) rfl ?_
  refine lv_aload_n hx hb dX4_init_4 rfl (lv_at hl 0 rfl) ?_
  refine va_new (ci := 11) (fs := df11) (C := RX11) (T := TX11) (N := 2) hx hb hts iG11 tyX11 tyX11_ok hown (hts _ gw215) (hts _ gw73) (hts _ gw4) hK.1 hP hD hS hA rfl nf11 (Nat.le_of_ble_eq_true rfl) (Nat.le_of_ble_eq_true rfl) dX4_init_5 (fun q_1 H hP hD hS => ?_)
  have hP : va_P D vwCl [(h, .inr (4, [.null, .null, .int 0, .int 0, .int 0, .long 0])), (q_1, .inr (11, [.null, .int 0]))] H := hP
  have hD : va_D A [(h, .inr (4, [.null, .null, .int 0, .int 0, .int 0, .long 0])), (q_1, .inr (11, [.null, .int 0]))] := hD
  refine W.widen (k := 1) (n := 2) (Nat.le_of_ble_eq_true rfl) (Nat.le_of_ble_eq_true rfl) ?_
  refine lv_dup hx hb dX4_init_8 rfl ?_
  refine x_callv [(q_1, .inr (11, [.null, .int 0]))] [(h, .inr (4, [.null, .null, .int 0, .int 0, .int 0, .long 0]))] (va_runIN (As := []) (rest := [.ref q_1, .ref h]) ⟨hx, hb, hml, hown, hts⟩ (c_Word_init l D cy q_1 H.size) ⟨va_cnB 0 hts (xw_good gw76) rfl rfl rfl (nx6 hK) (hts _ gw4) (by decide +kernel) ⟨(Nat.le_of_ble_eq_true rfl), (Nat.le_of_ble_eq_true rfl)⟩, rfl, hts _ gw75⟩ (xpreS hK (hP.sub (ws' := [(q_1, .inr (11, [.null, .int 0]))]) [1] rfl) (hD.sub (ws' := [(q_1, .inr (11, [.null, .int 0]))]) [1] (by decide) rfl)) rfl rfl hl.1 rfl (lv_room (Nat.le_of_ble_eq_true rfl)) dX4_init_9 ⟨(Nat.le_of_ble_eq_true rfl), (Nat.le_of_ble_eq_true rfl)⟩) hP hD hS hA [1] [0] rfl rfl (by decide) (by decide) (fun u_2 H locs hw_u_2 hP hD hS => ?_)
  have hP : va_P D vwCl [(h, .inr (4, [.null, .null, .int 0, .int 0, .int 0, .long 0]))] H := hP
  have hD : va_D A [(h, .inr (4, [.null, .null, .int 0, .int 0, .int 0, .long 0]))] := hD
  refine W.widen (k := 2) (n := 17) (Nat.le_of_ble_eq_true rfl) (Nat.le_of_ble_eq_true rfl) ?_
  refine va_putF (D := D) (ci := 4) (v := .ref q_1) (ty := tyX4 0) (C := RX4) (T := TX4) (N := 6) hx hb hts iG4 tyX4 tyX4_ok nmX4 hown hK.1 hP hD hS 0 rfl rfl 0 (by decide) (hts _ gw218) (fun _ h9 => h9) rfl hin rfl (by decide +kernel) rfl rfl (Nat.le_of_ble_eq_true rfl) dX4_init_12 (fun H locs hP hD hS => ?_)
  have hP : va_P D vwCl [(h, .inr (4, [.ref q_1, .null, .int 0, .int 0, .int 0, .long 0]))] H := hP
  have hD : va_D A [(h, .inr (4, [.ref q_1, .null, .int 0, .int 0, .int 0, .long 0]))] := hD
  refine lv_aload_n hx hb dX4_init_15 rfl (lv_at hl 0 rfl) ?_
  refine va_new (ci := 11) (fs := df11) (C := RX11) (T := TX11) (N := 2) hx hb hts iG11 tyX11 tyX11_ok hown (hts _ gw215) (hts _ gw73) (hts _ gw4) hK.1 hP hD hS hA rfl nf11 (Nat.le_of_ble_eq_true rfl) (Nat.le_of_ble_eq_true rfl) dX4_init_16 (fun q_3 H hP hD hS => ?_)
  have hP : va_P D vwCl [(h, .inr (4, [.ref q_1, .null, .int 0, .int 0, .int 0, .long 0])), (q_3, .inr (11, [.null, .int 0]))] H := hP
  have hD : va_D A [(h, .inr (4, [.ref q_1, .null, .int 0, .int 0, .int 0, .long 0])), (q_3, .inr (11, [.null, .int 0]))] := hD
  refine W.widen (k := 3) (n := 19) (Nat.le_of_ble_eq_true rfl) (Nat.le_of_ble_eq_true rfl) ?_
  refine lv_dup hx hb dX4_init_19 rfl ?_
  refine x_callv [(q_3, .inr (11, [.null, .int 0]))] [(h, .inr (4, [.ref q_1, .null, .int 0, .int 0, .int 0, .long 0]))] (va_runIN (As := []) (rest := [.ref q_3, .ref h]) ⟨hx, hb, hml, hown, hts⟩ (c_Word_init l D cy q_3 H.size) ⟨va_cnB 0 hts (xw_good gw76) rfl rfl rfl (nx6 hK) (hts _ gw4) (by decide +kernel) ⟨(Nat.le_of_ble_eq_true rfl), (Nat.le_of_ble_eq_true rfl)⟩, rfl, hts _ gw75⟩ (xpreS hK (hP.sub (ws' := [(q_3, .inr (11, [.null, .int 0]))]) [1] rfl) (hD.sub (ws' := [(q_3, .inr (11, [.null, .int 0]))]) [1] (by decide) rfl)) rfl rfl hl.1 rfl (lv_room (Nat.le_of_ble_eq_true rfl)) dX4_init_20 ⟨(Nat.le_of_ble_eq_true rfl), (Nat.le_of_ble_eq_true rfl)⟩) hP hD hS hA [1] [0] rfl rfl (by decide) (by decide) (fun u_4 H locs hw_u_4 hP hD hS => ?_)
  have hP : va_P D vwCl [(h, .inr (4, [.ref q_1, .null, .int 0, .int 0, .int 0, .long 0]))] H := hP
  have hD : va_D A [(h, .inr (4, [.ref q_1, .null, .int 0, .int 0, .int 0, .long 0]))] := hD
  refine W.widen (k := 4) (n := 34) (Nat.le_of_ble_eq_true rfl) (Nat.le_of_ble_eq_true rfl) ?_
  refine va_putF (D := D) (ci := 4) (v := .ref q_3) (ty := tyX4 1) (C := RX4) (T := TX4) (N := 6) hx hb hts iG4 tyX4 tyX4_ok nmX4 hown hK.1 hP hD hS 0 rfl rfl 1 (by decide) (hts _ gw220) (fun _ h9 => h9) rfl hin rfl (by decide +kernel) rfl rfl (Nat.le_of_ble_eq_true rfl) dX4_init_23 (fun H locs hP hD hS => ?_)
  have hP : va_P D vwCl [(h, .inr (4, [.ref q_1, .ref q_3, .int 0, .int 0, .int 0, .long 0]))] H := hP
  have hD : va_D A [(h, .inr (4, [.ref q_1, .ref q_3, .int 0, .int 0, .int 0, .long 0]))] := hD
  refine lv_aload_n hx hb dX4_init_26 rfl (lv_at hl 0 rfl) ?_
  refine lv_iconst (v := 0) hx hb dX4_init_27 (by decide) ?_
  refine va_put (D := D) (ci := 4) (v := .int 0) (ty := .int) (C := RX4) (T := TX4) (N := 6) hx hb hts iG4 tyX4 tyX4_ok nmX4 hown hK.1 hP hD hS 0 rfl rfl 2 (by decide) (hts _ gw223) (fun _ h9 => h9) rfl (by decide +kernel) rfl rfl (Nat.le_of_ble_eq_true rfl) dX4_init_28 (fun H locs hP hD hS => ?_)
  have hP : va_P D vwCl [(h, .inr (4, [.ref q_1, .ref q_3, .int 0, .int 0, .int 0, .long 0]))] H := hP
  have hD : va_D A [(h, .inr (4, [.ref q_1, .ref q_3, .int 0, .int 0, .int 0, .long 0]))] := hD
  refine lv_aload_n hx hb dX4_init_31 rfl (lv_at hl 0 rfl) ?_
  refine lv_iconst (v := 1) hx hb dX4_init_32 (by decide) ?_
  refine va_put (D := D) (ci := 4) (v := .int 1) (ty := .int) (C := RX4) (T := TX4) (N := 6) hx hb hts iG4 tyX4 tyX4_ok nmX4 hown hK.1 hP hD hS 0 rfl rfl 3 (by decide) (hts _ gw226) (fun _ h9 => h9) rfl (by decide +kernel) rfl rfl (Nat.le_of_ble_eq_true rfl) dX4_init_33 (fun H locs hP hD hS => ?_)
  have hP : va_P D vwCl [(h, .inr (4, [.ref q_1, .ref q_3, .int 0, .int 1, .int 0, .long 0]))] H := hP
  have hD : va_D A [(h, .inr (4, [.ref q_1, .ref q_3, .int 0, .int 1, .int 0, .long 0]))] := hD
  refine lv_aload_n hx hb dX4_init_36 rfl (lv_at hl 0 rfl) ?_
  refine lv_iconst (v := 0) hx hb dX4_init_37 (by decide) ?_
  refine va_put (D := D) (ci := 4) (v := .int 0) (ty := .int) (C := RX4) (T := TX4) (N := 6) hx hb hts iG4 tyX4 tyX4_ok nmX4 hown hK.1 hP hD hS 0 rfl rfl 4 (by decide) (hts _ gw227) (fun _ h9 => h9) rfl (by decide +kernel) rfl rfl (Nat.le_of_ble_eq_true rfl) dX4_init_38 (fun H locs hP hD hS => ?_)
  have hP : va_P D vwCl [(h, .inr (4, [.ref q_1, .ref q_3, .int 0, .int 1, .int 0, .long 0]))] H := hP
  have hD : va_D A [(h, .inr (4, [.ref q_1, .ref q_3, .int 0, .int 1, .int 0, .long 0]))] := hD
  refine lv_aload_n hx hb dX4_init_41 rfl (lv_at hl 0 rfl) ?_
  refine lv_ldc2 (v := 4611686018427387904) hx hb hown (hts _ gw217) dX4_init_42 ?_
  refine va_put (D := D) (ci := 4) (v := .long 4611686018427387904) (ty := .long) (C := RX4) (T := TX4) (N := 6) hx hb hts iG4 tyX4 tyX4_ok nmX4 hown hK.1 hP hD hS 0 rfl rfl 5 (by decide) (hts _ gw229) (fun _ h9 => h9) rfl (by decide +kernel) rfl rfl (Nat.le_of_ble_eq_true rfl) dX4_init_45 (fun H locs hP hD hS => ?_)
  have hP : va_P D vwCl [(h, .inr (4, [.ref q_1, .ref q_3, .int 0, .int 1, .int 0, .long 4611686018427387904]))] H := hP
  have hD : va_D A [(h, .inr (4, [.ref q_1, .ref q_3, .int 0, .int 1, .int 0, .long 4611686018427387904]))] := hD
  have hP9 := hP.sub (ws' := [(h, .inr (4, [.ref q_1, .ref q_3, .int 0, .int 1, .int 0, .long 4611686018427387904]))]) [0] rfl
  have hD9 := hD.sub (ws' := [(h, .inr (4, [.ref q_1, .ref q_3, .int 0, .int 1, .int 0, .long 4611686018427387904]))]) [0] (by decide) rfl
  refine W.widen (k := 4) (n := 34) (Nat.le_of_ble_eq_true rfl) (Nat.le_of_ble_eq_true rfl) ?_
  exact W.vret hx hb hr (fun t ht hW => ⟨⟨(q_1, q_3), rfl, trivial, by rw [ht]; exact hP9, hD9⟩, hS.F ht⟩) hS.2.2 dX4_init_48
set_option maxHeartbeats 4000000 in
set_option maxRecDepth 100000 in
theorem c_Packet_init (l : Launch) (D : va_G) (cy : Nat → ClassId) (h : Nat) : xMv l D cy yX5_init cX5_init 1 ({ frames := 1, cells := 2, slots := 217, locals := 12 }) [.ref h] [(h, .inr (5, [.null, .null, .int 0, .int 0, .int 0, .int 0]))] (S := Nat × Nat) (fun _ => True) (fun u => [(h, .inr (5, [.ref u.1, .ref u.2, .int 0, .int 0, .int (-1), .int 0])), (u.1, .inl (cy 0, 200, .inl (fun _ => 0)))]) := by
  intro sz
  refine Met.ofW (cc := cX5_init) (maxL := 1) (ret := none) (by decide) rfl ?_
  intro p e s m args below meth c s₁ B hml hv
  obtain ⟨rfl, hsz, hP, hK, hD0⟩ := hv
  have hx := B.exec
  have hb := B.bytes
  have hr := B.returns
  have hts0 := atoms_spec (ws := xw yX5_init cX5_init 1 none) B.pre
  have hts : ∀ w ∈ xG, w.before _ s = true := fun w h => hts0 w (List.mem_cons_of_mem _ h)
  have hown : s.vm.findClass RX5 = some m.cls := findClass_of_methodNamed B.named
  have hlocks := B.notSynchronized
  have hin : meth.name = "<init>" := (name_of_methodNamed B.named B.method).1
  subst hsz
  have hD := hD0.self (sz := s.heap.size)
  generalize hAe : va_A [(h, .inr (5, [.null, .null, .int 0, .int 0, .int 0, .int 0]))] s.heap.size = A at hD ⊢
  have hA : ∀ q : Nat, s.heap.size ≤ q → A q := fun q h => by rw [← hAe]; exact Or.inr h
  have hS : va_S A s.heap s.heap [] := va_S.rf
  have hl := lv_entry ([.ref h]) (n := 1) (Nat.le_of_ble_eq_true rfl)
  rw [lg_entry_eq]
  generalize (lg_sl ([.ref h]) ++ List.replicate (1 - (lg_sl ([.ref h])).length) Slot.unset).toArray = ls at hl ⊢
  have hl : lv_has ls 1 [(0, .ref h)] := hl
  refine lv_aload_n hx hb dX5_init_0 rfl (lv_at hl 0 rfl) ?_
  refine W.objInit hx hb hown (hts _ gw36) (hts _ gw27) (hts _ gw28) rfl (by rw [hml]; exact hl.1) rfl dX5_init_1 (Nat.le_of_ble_eq_true rfl) (Nat.le_of_ble_eq_true rfl) ?_
  refine W.eq (g2 := F0 m 4 ls []) rfl ?_
  refine lv_aload_n hx hb dX5_init_4 rfl (lv_at hl 0 rfl) ?_
  refine lv_sipush (v := 200) hx hb dX5_init_5 (by decide) ?_
  refine x_newa (atype := .byte) (a0 := (200, .inl (fun _ => 0))) hx hb (hts _ gw62) hK.1 hP hD hS hA 0 rfl (fun _ => rfl) (by decide) (by decide +kernel) (by decide) (Nat.le_of_ble_eq_true rfl) (Nat.le_of_ble_eq_true rfl) dX5_init_8 (fun q_1 H hP hD hS => ?_)
  have hP : va_P D vwCl [(h, .inr (5, [.null, .null, .int 0, .int 0, .int 0, .int 0])), (q_1, .inl (cy 0, 200, .inl (fun _ => 0)))] H := hP
  have hD : va_D A [(h, .inr (5, [.null, .null, .int 0, .int 0, .int 0, .int 0])), (q_1, .inl (cy 0, 200, .inl (fun _ => 0)))] := hD
  refine W.widen (k := 1) (n := 200) (Nat.le_of_ble_eq_true rfl) (Nat.le_of_ble_eq_true rfl) ?_
  refine va_putF (D := D) (ci := 5) (v := .ref q_1) (ty := tyX5 0) (C := RX5) (T := TX5) (N := 6) hx hb hts iG5 tyX5 tyX5_ok nmX5 hown hK.1 hP hD hS 0 rfl rfl 0 (by decide) (hts _ gw37) (fun _ h9 => h9) rfl hin rfl (by decide +kernel) rfl rfl (Nat.le_of_ble_eq_true rfl) dX5_init_10 (fun H locs hP hD hS => ?_)
  have hP : va_P D vwCl [(h, .inr (5, [.ref q_1, .null, .int 0, .int 0, .int 0, .int 0])), (q_1, .inl (cy 0, 200, .inl (fun _ => 0)))] H := hP
  have hD : va_D A [(h, .inr (5, [.ref q_1, .null, .int 0, .int 0, .int 0, .int 0])), (q_1, .inl (cy 0, 200, .inl (fun _ => 0)))] := hD
  refine lv_aload_n hx hb dX5_init_13 rfl (lv_at hl 0 rfl) ?_
  refine lv_bipush (v := 17) hx hb dX5_init_14 (by decide) ?_
  refine x_newa (atype := .int) (a0 := (17, .inl (fun _ => 0))) hx hb (hts _ gw63) hK.1 hP hD hS hA 1 rfl (fun _ => rfl) (by decide) (by decide +kernel) (by decide) (Nat.le_of_ble_eq_true rfl) (Nat.le_of_ble_eq_true rfl) dX5_init_16 (fun q_2 H hP hD hS => ?_)
  have hP : va_P D vwCl [(h, .inr (5, [.ref q_1, .null, .int 0, .int 0, .int 0, .int 0])), (q_1, .inl (cy 0, 200, .inl (fun _ => 0))), (q_2, .inl (cy 1, 17, .inl (fun _ => 0)))] H := hP
  have hD : va_D A [(h, .inr (5, [.ref q_1, .null, .int 0, .int 0, .int 0, .int 0])), (q_1, .inl (cy 0, 200, .inl (fun _ => 0))), (q_2, .inl (cy 1, 17, .inl (fun _ => 0)))] := hD
  refine W.widen (k := 2) (n := 217) (Nat.le_of_ble_eq_true rfl) (Nat.le_of_ble_eq_true rfl) ?_
  refine va_putF (D := D) (ci := 5) (v := .ref q_2) (ty := tyX5 1) (C := RX5) (T := TX5) (N := 6) hx hb hts iG5 tyX5 tyX5_ok nmX5 hown hK.1 hP hD hS 0 rfl rfl 1 (by decide) (hts _ gw39) (fun _ h9 => h9) rfl hin rfl (by decide +kernel) rfl rfl (Nat.le_of_ble_eq_true rfl) dX5_init_18 (fun H locs hP hD hS => ?_)
  have hP : va_P D vwCl [(h, .inr (5, [.ref q_1, .ref q_2, .int 0, .int 0, .int 0, .int 0])), (q_1, .inl (cy 0, 200, .inl (fun _ => 0))), (q_2, .inl (cy 1, 17, .inl (fun _ => 0)))] H := hP
  have hD : va_D A [(h, .inr (5, [.ref q_1, .ref q_2, .int 0, .int 0, .int 0, .int 0])), (q_1, .inl (cy 0, 200, .inl (fun _ => 0))), (q_2, .inl (cy 1, 17, .inl (fun _ => 0)))] := hD
  refine lv_aload_n hx hb dX5_init_21 rfl (lv_at hl 0 rfl) ?_
  refine lv_iconst (v := 0) hx hb dX5_init_22 (by decide) ?_
  refine va_put (D := D) (ci := 5) (v := .int 0) (ty := .int) (C := RX5) (T := TX5) (N := 6) hx hb hts iG5 tyX5 tyX5_ok nmX5 hown hK.1 hP hD hS 0 rfl rfl 2 (by decide) (hts _ gw40) (fun _ h9 => h9) rfl (by decide +kernel) rfl rfl (Nat.le_of_ble_eq_true rfl) dX5_init_23 (fun H locs hP hD hS => ?_)
  have hP : va_P D vwCl [(h, .inr (5, [.ref q_1, .ref q_2, .int 0, .int 0, .int 0, .int 0])), (q_1, .inl (cy 0, 200, .inl (fun _ => 0))), (q_2, .inl (cy 1, 17, .inl (fun _ => 0)))] H := hP
  have hD : va_D A [(h, .inr (5, [.ref q_1, .ref q_2, .int 0, .int 0, .int 0, .int 0])), (q_1, .inl (cy 0, 200, .inl (fun _ => 0))), (q_2, .inl (cy 1, 17, .inl (fun _ => 0)))] := hD
  refine lv_aload_n hx hb dX5_init_26 rfl (lv_at hl 0 rfl) ?_
  refine lv_iconst (v := 0) hx hb dX5_init_27 (by decide) ?_
  refine va_put (D := D) (ci := 5) (v := .int 0) (ty := .int) (C := RX5) (T := TX5) (N := 6) hx hb hts iG5 tyX5 tyX5_ok nmX5 hown hK.1 hP hD hS 0 rfl rfl 3 (by decide) (hts _ gw43) (fun _ h9 => h9) rfl (by decide +kernel) rfl rfl (Nat.le_of_ble_eq_true rfl) dX5_init_28 (fun H locs hP hD hS => ?_)
  have hP : va_P D vwCl [(h, .inr (5, [.ref q_1, .ref q_2, .int 0, .int 0, .int 0, .int 0])), (q_1, .inl (cy 0, 200, .inl (fun _ => 0))), (q_2, .inl (cy 1, 17, .inl (fun _ => 0)))] H := hP
  have hD : va_D A [(h, .inr (5, [.ref q_1, .ref q_2, .int 0, .int 0, .int 0, .int 0])), (q_1, .inl (cy 0, 200, .inl (fun _ => 0))), (q_2, .inl (cy 1, 17, .inl (fun _ => 0)))] := hD
  refine lv_aload_n hx hb dX5_init_31 rfl (lv_at hl 0 rfl) ?_
  refine lv_iconst (v := (-1)) hx hb dX5_init_32 (by decide) ?_
  refine va_put (D := D) (ci := 5) (v := .int (-1)) (ty := .int) (C := RX5) (T := TX5) (N := 6) hx hb hts iG5 tyX5 tyX5_ok nmX5 hown hK.1 hP hD hS 0 rfl rfl 4 (by decide) (hts _ gw45) (fun _ h9 => h9) rfl (by decide +kernel) rfl rfl (Nat.le_of_ble_eq_true rfl) dX5_init_33 (fun H locs hP hD hS => ?_)
  have hP : va_P D vwCl [(h, .inr (5, [.ref q_1, .ref q_2, .int 0, .int 0, .int (-1), .int 0])), (q_1, .inl (cy 0, 200, .inl (fun _ => 0))), (q_2, .inl (cy 1, 17, .inl (fun _ => 0)))] H := hP
  have hD : va_D A [(h, .inr (5, [.ref q_1, .ref q_2, .int 0, .int 0, .int (-1), .int 0])), (q_1, .inl (cy 0, 200, .inl (fun _ => 0))), (q_2, .inl (cy 1, 17, .inl (fun _ => 0)))] := hD
  refine lv_aload_n hx hb dX5_init_36 rfl (lv_at hl 0 rfl) ?_
  refine lv_iconst (v := 0) hx hb dX5_init_37 (by decide) ?_
  refine va_put (D := D) (ci := 5) (v := .int 0) (ty := .int) (C := RX5) (T := TX5) (N := 6) hx hb hts iG5 tyX5 tyX5_ok nmX5 hown hK.1 hP hD hS 0 rfl rfl 5 (by decide) (hts _ gw47) (fun _ h9 => h9) rfl (by decide +kernel) rfl rfl (Nat.le_of_ble_eq_true rfl) dX5_init_38 (fun H locs hP hD hS => ?_)
  have hP : va_P D vwCl [(h, .inr (5, [.ref q_1, .ref q_2, .int 0, .int 0, .int (-1), .int 0])), (q_1, .inl (cy 0, 200, .inl (fun _ => 0))), (q_2, .inl (cy 1, 17, .inl (fun _ => 0)))] H := hP
  have hD : va_D A [(h, .inr (5, [.ref q_1, .ref q_2, .int 0, .int 0, .int (-1), .int 0])), (q_1, .inl (cy 0, 200, .inl (fun _ => 0))), (q_2, .inl (cy 1, 17, .inl (fun _ => 0)))] := hD
  have hP9 := hP.sub (ws' := [(h, .inr (5, [.ref q_1, .ref q_2, .int 0, .int 0, .int (-1), .int 0])), (q_1, .inl (cy 0, 200, .inl (fun _ => 0)))]) [0, 1] rfl
  have hD9 := hD.sub (ws' := [(h, .inr (5, [.ref q_1, .ref q_2, .int 0, .int 0, .int (-1), .int 0])), (q_1, .inl (cy 0, 200, .inl (fun _ => 0)))]) [0, 1] (by decide) rfl
  refine W.widen (k := 2) (n := 217) (Nat.le_of_ble_eq_true rfl) (Nat.le_of_ble_eq_true rfl) ?_
  exact W.vret hx hb hr (fun t ht hW => ⟨⟨(q_1, q_2), rfl, trivial, by rw [ht]; exact hP9, hD9⟩, hS.F ht⟩) hS.2.2 dX5_init_41
