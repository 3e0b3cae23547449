theorem gw1124 : (Cond.fieldLink RX13 188 "CableNamesModel" "tapeSize" "I") ∈ xG := xin5 164 (by decide +kernel) (by decide +kernel)
theorem gw1522 : (Cond.code yX13_isHost cX13_isHost 2 (Option.some .boolean)) ∈ xG := xin7 82 (by decide +kernel) (by decide +kernel)
theorem gw14 : (Cond.initialized RX13) ∈ xG := xin1 14 (by decide +kernel) (by decide +kernel)
theorem gw1521 : (Cond.instanceMethod yX13_isHost) ∈ xG := xin7 81 (by decide +kernel) (by decide +kernel)
theorem gw1519 : (Cond.methodLink RX13 386 yX13_isHost) ∈ xG := xin7 79 (by decide +kernel) (by decide +kernel)
theorem gs78 : (Cond.selects RX13 yX13_isHost yX13_isHost) ∈ xG := xinS 78 (by decide +kernel) (by decide +kernel)
theorem gw1125 : (Cond.fieldLink RX13 184 "CableNamesModel" "thrown" "I") ∈ xG := xin5 165 (by decide +kernel) (by decide +kernel)
theorem gw1539 : (Cond.code yX13_takesWord cX13_takesWord 4 (Option.some .boolean)) ∈ xG := xin7 99 (by decide +kernel) (by decide +kernel)
theorem gw1538 : (Cond.instanceMethod yX13_takesWord) ∈ xG := xin7 98 (by decide +kernel) (by decide +kernel)
theorem gw1536 : (Cond.methodLink RX13 393 yX13_takesWord) ∈ xG := xin7 96 (by decide +kernel) (by decide +kernel)
theorem gs80 : (Cond.selects RX13 yX13_takesWord yX13_takesWord) ∈ xG := xinS 80 (by decide +kernel) (by decide +kernel)
theorem gw1180 : (Cond.fieldLink RX13 318 "CableNamesModel" "packetSize" "I") ∈ xG := xin5 220 (by decide +kernel) (by decide +kernel)
theorem gw1556 : (Cond.code yX13_isOpen cX13_isOpen 3 (Option.some .boolean)) ∈ xG := xin7 116 (by decide +kernel) (by decide +kernel)
theorem gw1555 : (Cond.instanceMethod yX13_isOpen) ∈ xG := xin7 115 (by decide +kernel) (by decide +kernel)
theorem gw1553 : (Cond.methodLink RX13 398 yX13_isOpen) ∈ xG := xin7 113 (by decide +kernel) (by decide +kernel)
theorem gs81 : (Cond.selects RX13 yX13_isOpen yX13_isOpen) ∈ xG := xinS 81 (by decide +kernel) (by decide +kernel)
theorem xl0 {a : Int32} (h : a = 0) : lg_cmp 0 (0 + a.toInt64) = 0 := by subst h; decide
theorem xl1 {a : Int32} (h : 0 < a) : lg_cmp 0 (0 + a.toInt64) = -1 := by
  have h1 : (0 : Int64) < 0 + a.toInt64 := by
    rw [Int64.lt_iff_toInt_lt, xgo_ti]
    rw [Int32.lt_iff_toInt_lt] at h
    exact h
  unfold lg_cmp
  rw [if_neg, if_neg]
  · intro q; rw [← q] at h1; exact absurd h1 (by decide)
  · intro q
    rw [gt_iff_lt, Int64.lt_iff_toInt_lt] at q
    rw [Int64.lt_iff_toInt_lt] at h1
    omega
theorem xl2 (x : Int64) : lg_cmp x x = 0 := by
  unfold lg_cmp
  rw [if_neg, if_pos rfl]
  intro q
  rw [gt_iff_lt, Int64.lt_iff_toInt_lt] at q
  omega
theorem xl3 {a : Int32} (h1 : ¬ a < 0) : a = 0 ∨ 0 < a := by
  by_cases q : 0 < a
  · exact Or.inr q
  · exact Or.inl (xz h1 q)
def xlk (h w : Int32) : Int32 := if h < 0 then 0 else if 8 ≤ h then 0 else if w < 0 then 0 else if w ≤ 11 then (if w = 2 then -1 else 0) else 0
def xth (h w : Int32) : Int32 := if h < 0 then 1 else if 8 ≤ h then 1 else if w < 0 then 2 else if w ≤ 11 then 0 else 2
set_option maxHeartbeats 4000000 in
set_option maxRecDepth 100000 in
theorem m_isHost (l : Launch) (D : va_G) (cy : Nat → ClassId) (z0 : Nat) (g : Nat → Nat) (h : Int32) : xMi l D cy yX13_isHost cX13_isHost 2 (some .boolean) ({ frames := 0, cells := 0, slots := 0, locals := 0 }) [.ref z0, .int h] [(z0, .inr (13, xM g 0 0 0))] (S := Unit) (fun r _ => (r = 0 ∧ (h < 0 ∨ 8 ≤ h)) ∨ (r = 1 ∧ ¬ h < 0 ∧ ¬ 8 ≤ h)) (fun _ => [(z0, .inr (13, xM g 0 0 0))]) := by
  intro sz
  refine Met.ofW (cc := cX13_isHost) (maxL := 2) (ret := (some .boolean)) (by decide) rfl ?_
  intro p e s m args below meth c s₁ B hml hv
  obtain ⟨rfl, hsz, hP, hK, hD0⟩ := hv
  have hx := B.exec
  have hb := B.bytes
  have hr := B.returns
  have hts0 := atoms_spec (ws := xw yX13_isHost cX13_isHost 2 (some .boolean)) B.pre
  have hts : ∀ w ∈ xG, w.before _ s = true := fun w h => hts0 w (List.mem_cons_of_mem _ h)
  have hown : s.vm.findClass RX13 = some m.cls := findClass_of_methodNamed B.named
  have hlocks := B.notSynchronized
  subst hsz
  have hD := hD0.self (sz := s.heap.size)
  generalize hAe : va_A [(z0, .inr (13, xM g 0 0 0))] s.heap.size = A at hD ⊢
  have hA : ∀ q : Nat, s.heap.size ≤ q → A q := fun q h => by rw [← hAe]; exact Or.inr h
  have hS : va_S A s.heap s.heap [] := va_S.rf
  have hl := lv_entry ([.ref z0, .int h]) (n := 2) (Nat.le_of_ble_eq_true rfl)
  rw [lg_entry_eq]
  generalize (lg_sl ([.ref z0, .int h]) ++ List.replicate (2 - (lg_sl ([.ref z0, .int h])).length) Slot.unset).toArray = ls at hl ⊢
  have hl : lv_has ls 2 [(0, .ref z0), (1, .int h)] := hl
  refine lv_iload_n hx hb dX13_isHost_0 rfl (lv_at hl 1 rfl) ?_
  refine lv_if_lt (tgt := 14) hx hb dX13_isHost_1 (by decide) (fun c_1 => ?_) (fun c_1 => ?_)
  · refine lv_iconst (v := 0) hx hb dX13_isHost_14 (by decide) ?_
    have hP9 := hP.sub (ws' := [(z0, .inr (13, xM g 0 0 0))]) [0] rfl
    have hD9 := hD.sub (ws' := [(z0, .inr (13, xM g 0 0 0))]) [0] (by decide) rfl
    refine W.widen (k := 0) (n := 0) (Nat.le_of_ble_eq_true rfl) (Nat.le_of_ble_eq_true rfl) ?_
    exact W.zret (v := 0) hx hb hr (by decide) (fun t ht hW => ⟨⟨0, (), rfl, Or.inl ⟨rfl, Or.inl c_1⟩, by rw [ht]; exact hP9, hD9⟩, hS.F ht⟩) hS.2.2 dX13_isHost_15
  · refine lv_iload_n hx hb dX13_isHost_4 rfl (lv_at hl 1 rfl) ?_
    refine lv_bipush (v := 8) hx hb dX13_isHost_5 (by decide) ?_
    refine lv_icmp_ge (tgt := 14) hx hb dX13_isHost_7 (by decide) (fun c_2 => ?_) (fun c_2 => ?_)
    · refine lv_iconst (v := 0) hx hb dX13_isHost_14 (by decide) ?_
      have hP9 := hP.sub (ws' := [(z0, .inr (13, xM g 0 0 0))]) [0] rfl
      have hD9 := hD.sub (ws' := [(z0, .inr (13, xM g 0 0 0))]) [0] (by decide) rfl
      refine W.widen (k := 0) (n := 0) (Nat.le_of_ble_eq_true rfl) (Nat.le_of_ble_eq_true rfl) ?_
      exact W.zret (v := 0) hx hb hr (by decide) (fun t ht hW => ⟨⟨0, (), rfl, Or.inl ⟨rfl, Or.inr c_2⟩, by rw [ht]; exact hP9, hD9⟩, hS.F ht⟩) hS.2.2 dX13_isHost_15
    · refine lv_iconst (v := 1) hx hb dX13_isHost_10 (by decide) ?_
      refine lv_goto (tgt := 15) hx hb dX13_isHost_11 (by decide) ?_
      have hP9 := hP.sub (ws' := [(z0, .inr (13, xM g 0 0 0))]) [0] rfl
      have hD9 := hD.sub (ws' := [(z0, .inr (13, xM g 0 0 0))]) [0] (by decide) rfl
      refine W.widen (k := 0) (n := 0) (Nat.le_of_ble_eq_true rfl) (Nat.le_of_ble_eq_true rfl) ?_
      exact W.zret (v := 1) hx hb hr (by decide) (fun t ht hW => ⟨⟨1, (), rfl, Or.inr ⟨rfl, c_1, c_2⟩, by rw [ht]; exact hP9, hD9⟩, hS.F ht⟩) hS.2.2 dX13_isHost_15
set_option maxHeartbeats 4000000 in
set_option maxRecDepth 100000 in
theorem m_takesWord (l : Launch) (D : va_G) (cy : Nat → ClassId) (z0 : Nat) (g : Nat → Nat) : xMi l D cy yX13_takesWord cX13_takesWord 4 (some .boolean) ({ frames := 0, cells := 0, slots := 0, locals := 0 }) [.ref z0] [(z0, .inr (13, xM g 0 0 0))] (S := Unit) (fun r _ => r = 0) (fun _ => [(z0, .inr (13, xM g 0 0 0))]) := by
  intro sz
  refine Met.ofW (cc := cX13_takesWord) (maxL := 4) (ret := (some .boolean)) (by decide) rfl ?_
  intro p e s m args below meth c s₁ B hml hv
  obtain ⟨rfl, hsz, hP, hK, hD0⟩ := hv
  have hx := B.exec
  have hb := B.bytes
  have hr := B.returns
  have hts0 := atoms_spec (ws := xw yX13_takesWord cX13_takesWord 4 (some .boolean)) B.pre
  have hts : ∀ w ∈ xG, w.before _ s = true := fun w h => hts0 w (List.mem_cons_of_mem _ h)
  have hown : s.vm.findClass RX13 = some m.cls := findClass_of_methodNamed B.named
  have hlocks := B.notSynchronized
  subst hsz
  have hD := hD0.self (sz := s.heap.size)
  generalize hAe : va_A [(z0, .inr (13, xM g 0 0 0))] s.heap.size = A at hD ⊢
  have hA : ∀ q : Nat, s.heap.size ≤ q → A q := fun q h => by rw [← hAe]; exact Or.inr h
  have hS : va_S A s.heap s.heap [] := va_S.rf
  have hl := lv_entry ([.ref z0]) (n := 4) (Nat.le_of_ble_eq_true rfl)
  rw [lg_entry_eq]
  generalize (lg_sl ([.ref z0]) ++ List.replicate (4 - (lg_sl ([.ref z0])).length) Slot.unset).toArray = ls at hl ⊢
  have hl : lv_has ls 4 [(0, .ref z0)] := hl
  refine lv_aload_n hx hb dX13_takesWord_0 rfl (lv_at hl 0 rfl) ?_
  refine va_get (D := D) (ci := 13) (v := .int 0) (C := RX13) (T := TX13) (N := 68) hx hb hts iG13 hown hK.1 hP 0 rfl rfl 2 (by decide) (hts _ gw1124) (fun _ h9 => h9) rfl dX13_takesWord_1 ?_
  refine lv_istore_n (lv' := [(1, .int 0), (0, .ref z0)]) hx hb dX13_takesWord_4 rfl hl (by decide) rfl (fun ls hl => ?_)
  refine lv_aload_n hx hb dX13_takesWord_5 rfl (lv_at hl 1 rfl) ?_
  refine lv_iconst (v := 0) hx hb dX13_takesWord_6 (by decide) ?_
  refine va_put (D := D) (ci := 13) (v := .int 0) (ty := .int) (C := RX13) (T := TX13) (N := 68) hx hb hts iG13 tyX13 tyX13_ok nmX13 hown hK.1 hP hD hS 0 rfl rfl 2 (by decide) (hts _ gw1124) (fun _ h9 => h9) rfl (by decide +kernel) rfl rfl (Nat.le_of_ble_eq_true rfl) dX13_takesWord_7 (fun H locs hP hD hS => ?_)
  have hP : va_P D vwCl [(z0, .inr (13, xM g 0 0 0))] H := hP
  have hD : va_D A [(z0, .inr (13, xM g 0 0 0))] := hD
  refine lv_iload_n hx hb dX13_takesWord_10 rfl (lv_at hl 0 rfl) ?_
  refine lv_iconst (v := 1) hx hb dX13_takesWord_11 (by decide) ?_
  refine lv_icmp_lt (tgt := 21) hx hb dX13_takesWord_12 (by decide) (fun c_1 => ?_) (fun c_1 => ?_)
  · refine lv_iconst (v := 0) hx hb dX13_takesWord_21 (by decide) ?_
    have hP9 := hP.sub (ws' := [(z0, .inr (13, xM g 0 0 0))]) [0] rfl
    have hD9 := hD.sub (ws' := [(z0, .inr (13, xM g 0 0 0))]) [0] (by decide) rfl
    refine W.widen (k := 0) (n := 0) (Nat.le_of_ble_eq_true rfl) (Nat.le_of_ble_eq_true rfl) ?_
    exact W.zret (v := 0) hx hb hr (by decide) (fun t ht hW => ⟨⟨0, (), rfl, rfl, by rw [ht]; exact hP9, hD9⟩, hS.F ht⟩) hS.2.2 dX13_takesWord_22
  · exact absurd c_1 (by decide)
set_option maxHeartbeats 4000000 in
set_option maxRecDepth 100000 in
theorem m_isOpen (l : Launch) (D : va_G) (cy : Nat → ClassId) (z0 : Nat) (g : Nat → Nat) (h q : Int32) : xMi l D cy yX13_isOpen cX13_isOpen 3 (some .boolean) ({ frames := 1, cells := 0, slots := 0, locals := 21 }) [.ref z0, .int h, .int q] [(z0, .inr (13, xM g 0 0 0)), (g 1, .inl (cy 3, 8, .inl (fun _ => 0)))] (S := Unit) (fun r _ => r = 0) (fun _ => []) := by
  intro sz
  refine Met.ofW (cc := cX13_isOpen) (maxL := 3) (ret := (some .boolean)) (by decide) rfl ?_
  intro p e s m args below meth c s₁ B hml hv
  obtain ⟨rfl, hsz, hP, hK, hD0⟩ := hv
  have hx := B.exec
  have hb := B.bytes
  have hr := B.returns
  have hts0 := atoms_spec (ws := xw yX13_isOpen cX13_isOpen 3 (some .boolean)) B.pre
  have hts : ∀ w ∈ xG, w.before _ s = true := fun w h => hts0 w (List.mem_cons_of_mem _ h)
  have hown : s.vm.findClass RX13 = some m.cls := findClass_of_methodNamed B.named
  have hlocks := B.notSynchronized
  subst hsz
  have hD := hD0.self (sz := s.heap.size)
  generalize hAe : va_A [(z0, .inr (13, xM g 0 0 0)), (g 1, .inl (cy 3, 8, .inl (fun _ => 0)))] s.heap.size = A at hD ⊢
  have hA : ∀ q : Nat, s.heap.size ≤ q → A q := fun q h => by rw [← hAe]; exact Or.inr h
  have hS : va_S A s.heap s.heap [] := va_S.rf
  have hl := lv_entry ([.ref z0, .int h, .int q]) (n := 3) (Nat.le_of_ble_eq_true rfl)
  rw [lg_entry_eq]
  generalize (lg_sl ([.ref z0, .int h, .int q]) ++ List.replicate (3 - (lg_sl ([.ref z0, .int h, .int q])).length) Slot.unset).toArray = ls at hl ⊢
  have hl : lv_has ls 3 [(0, .ref z0), (1, .int h), (2, .int q)] := hl
  refine lv_aload_n hx hb dX13_isOpen_0 rfl (lv_at hl 0 rfl) ?_
  refine lv_iload_n hx hb dX13_isOpen_1 rfl (lv_at hl 1 rfl) ?_
  refine x_calli [(z0, .inr (13, xM g 0 0 0))] [(g 1, .inl (cy 3, 8, .inl (fun _ => 0)))] (va_runV (As := [.int h]) (rest := []) ⟨hx, hb, hml, hown, hts⟩ (m_isHost l D cy z0 g h s.heap.size) (cwV 1 hts (xV gw1519 gw1521 gs78 gw14 gw1522) rfl rfl rfl (by decide +kernel) ⟨(Nat.le_of_ble_eq_true rfl), (Nat.le_of_ble_eq_true rfl)⟩) (xpreV hK (hP.sub (ws' := [(z0, .inr (13, xM g 0 0 0))]) [0] rfl) (hD.sub (ws' := [(z0, .inr (13, xM g 0 0 0))]) [0] (by decide) rfl) 0 13 rfl rfl rfl) rfl rfl hl.1 rfl (lv_room (Nat.le_of_ble_eq_true rfl)) dX13_isOpen_2 ⟨(Nat.le_of_ble_eq_true rfl), (Nat.le_of_ble_eq_true rfl)⟩) hP hD hS hA [0] [1] rfl rfl (by decide) (by decide) (fun r_u_1 u_1 H locs hw_u_1 hP hD hS => ?_)
  have hP : va_P D vwCl [(g 1, .inl (cy 3, 8, .inl (fun _ => 0))), (z0, .inr (13, xM g 0 0 0))] H := hP
  have hD : va_D A [(g 1, .inl (cy 3, 8, .inl (fun _ => 0))), (z0, .inr (13, xM g 0 0 0))] := hD
  refine W.widen (k := 0) (n := 0) (Nat.le_of_ble_eq_true rfl) (Nat.le_of_ble_eq_true rfl) ?_
  rcases hw_u_1 with ⟨rfl, hb_u_1⟩ | ⟨rfl, h1_u_1, h2_u_1⟩
  · refine lv_if_eq (tgt := 43) hx hb dX13_isOpen_5 (by decide) (fun c_2 => ?_) (fun c_2 => ?_)
    · refine lv_iconst (v := 0) hx hb dX13_isOpen_43 (by decide) ?_
      have hP9 := hP.sub (ws' := []) [] rfl
      have hD9 := hD.sub (ws' := []) [] (by decide) rfl
      refine W.widen (k := 0) (n := 0) (Nat.le_of_ble_eq_true rfl) (Nat.le_of_ble_eq_true rfl) ?_
      exact W.zret (v := 0) hx hb hr (by decide) (fun t ht hW => ⟨⟨0, (), rfl, rfl, by rw [ht]; exact hP9, hD9⟩, hS.F ht⟩) hS.2.2 dX13_isOpen_44
    · exact absurd c_2 (by decide)
  · refine lv_if_eq (tgt := 43) hx hb dX13_isOpen_5 (by decide) (fun c_3 => ?_) (fun c_3 => ?_)
    · exact absurd c_3 (by decide)
    · refine lv_aload_n hx hb dX13_isOpen_8 rfl (lv_at hl 0 rfl) ?_
      refine va_get (D := D) (ci := 13) (v := .ref (g 1)) (C := RX13) (T := TX13) (N := 68) hx hb hts iG13 hown hK.1 hP 1 rfl rfl 4 (by decide) (hts _ gw1126) (fun _ h9 => h9) rfl dX13_isOpen_9 ?_
      refine lv_iload_n hx hb dX13_isOpen_12 rfl (lv_at hl 1 rfl) ?_
      refine va_zald hx hb hK.1 hP 0 3 rfl rfl (xin8 h1_u_1 h2_u_1) dX13_isOpen_13 ?_
      refine lv_if_eq (tgt := 43) hx hb dX13_isOpen_14 (by decide) (fun c_4 => ?_) (fun c_4 => ?_)
      · refine lv_iconst (v := 0) hx hb dX13_isOpen_43 (by decide) ?_
        have hP9 := hP.sub (ws' := []) [] rfl
        have hD9 := hD.sub (ws' := []) [] (by decide) rfl
        refine W.widen (k := 0) (n := 0) (Nat.le_of_ble_eq_true rfl) (Nat.le_of_ble_eq_true rfl) ?_
        exact W.zret (v := 0) hx hb hr (by decide) (fun t ht hW => ⟨⟨0, (), rfl, rfl, by rw [ht]; exact hP9, hD9⟩, hS.F ht⟩) hS.2.2 dX13_isOpen_44
      · exact absurd c_4 (by decide)
set_option maxHeartbeats 4000000 in
set_option maxRecDepth 100000 in
theorem m_off (l : Launch) (D : va_G) (cy : Nat → ClassId) (z0 : Nat) (g : Nat → Nat) (a a2 : Int32) : xMi l D cy yX13_off cX13_off 3 (some .boolean) ({ frames := 1, cells := 0, slots := 0, locals := 21 }) [.ref z0, .int a, .int a2] [(z0, .inr (13, xM g 0 0 0)), (g 1, .inl (cy 3, 8, .inl (fun _ => 0)))] (S := Unit) (fun r _ => r = 0) (fun _ => []) := by
  intro sz
  refine Met.ofW (cc := cX13_off) (maxL := 3) (ret := (some .boolean)) (by decide) rfl ?_
  intro p e s m args below meth c s₁ B hml hv
  obtain ⟨rfl, hsz, hP, hK, hD0⟩ := hv
  have hx := B.exec
  have hb := B.bytes
  have hr := B.returns
  have hts0 := atoms_spec (ws := xw yX13_off cX13_off 3 (some .boolean)) B.pre
  have hts : ∀ w ∈ xG, w.before _ s = true := fun w h => hts0 w (List.mem_cons_of_mem _ h)
  have hown : s.vm.findClass RX13 = some m.cls := findClass_of_methodNamed B.named
  have hlocks := B.notSynchronized
  subst hsz
  have hD := hD0.self (sz := s.heap.size)
  generalize hAe : va_A [(z0, .inr (13, xM g 0 0 0)), (g 1, .inl (cy 3, 8, .inl (fun _ => 0)))] s.heap.size = A at hD ⊢
  have hA : ∀ q : Nat, s.heap.size ≤ q → A q := fun q h => by rw [← hAe]; exact Or.inr h
  have hS : va_S A s.heap s.heap [] := va_S.rf
  have hl := lv_entry ([.ref z0, .int a, .int a2]) (n := 3) (Nat.le_of_ble_eq_true rfl)
  rw [lg_entry_eq]
  generalize (lg_sl ([.ref z0, .int a, .int a2]) ++ List.replicate (3 - (lg_sl ([.ref z0, .int a, .int a2])).length) Slot.unset).toArray = ls at hl ⊢
  have hl : lv_has ls 3 [(0, .ref z0), (1, .int a), (2, .int a2)] := hl
  refine lv_aload_n hx hb dX13_off_0 rfl (lv_at hl 0 rfl) ?_
  refine lv_iconst (v := 0) hx hb dX13_off_1 (by decide) ?_
  refine va_put (D := D) (ci := 13) (v := .int 0) (ty := .int) (C := RX13) (T := TX13) (N := 68) hx hb hts iG13 tyX13 tyX13_ok nmX13 hown hK.1 hP hD hS 0 rfl rfl 3 (by decide) (hts _ gw1125) (fun _ h9 => h9) rfl (by decide +kernel) rfl rfl (Nat.le_of_ble_eq_true rfl) dX13_off_2 (fun H locs hP hD hS => ?_)
  have hP : va_P D vwCl [(z0, .inr (13, xM g 0 0 0)), (g 1, .inl (cy 3, 8, .inl (fun _ => 0)))] H := hP
  have hD : va_D A [(z0, .inr (13, xM g 0 0 0)), (g 1, .inl (cy 3, 8, .inl (fun _ => 0)))] := hD
  refine lv_aload_n hx hb dX13_off_5 rfl (lv_at hl 0 rfl) ?_
  refine lv_iload_n hx hb dX13_off_6 rfl (lv_at hl 1 rfl) ?_
  refine x_calli [(z0, .inr (13, xM g 0 0 0))] [(g 1, .inl (cy 3, 8, .inl (fun _ => 0)))] (va_runV (As := [.int a]) (rest := []) ⟨hx, hb, hml, hown, hts⟩ (m_isHost l D cy z0 g a H.size) (cwV 1 hts (xV gw1519 gw1521 gs78 gw14 gw1522) rfl rfl rfl (by decide +kernel) ⟨(Nat.le_of_ble_eq_true rfl), (Nat.le_of_ble_eq_true rfl)⟩) (xpreV hK (hP.sub (ws' := [(z0, .inr (13, xM g 0 0 0))]) [0] rfl) (hD.sub (ws' := [(z0, .inr (13, xM g 0 0 0))]) [0] (by decide) rfl) 0 13 rfl rfl rfl) rfl rfl hl.1 rfl (lv_room (Nat.le_of_ble_eq_true rfl)) dX13_off_7 ⟨(Nat.le_of_ble_eq_true rfl), (Nat.le_of_ble_eq_true rfl)⟩) hP hD hS hA [0] [1] rfl rfl (by decide) (by decide) (fun r_u_1 u_1 H locs hw_u_1 hP hD hS => ?_)
  have hP : va_P D vwCl [(g 1, .inl (cy 3, 8, .inl (fun _ => 0))), (z0, .inr (13, xM g 0 0 0))] H := hP
  have hD : va_D A [(g 1, .inl (cy 3, 8, .inl (fun _ => 0))), (z0, .inr (13, xM g 0 0 0))] := hD
  refine W.widen (k := 0) (n := 0) (Nat.le_of_ble_eq_true rfl) (Nat.le_of_ble_eq_true rfl) ?_
  rcases hw_u_1 with ⟨rfl, hb_u_1⟩ | ⟨rfl, h1_u_1, h2_u_1⟩
  · refine lv_if_eq (tgt := 22) hx hb dX13_off_10 (by decide) (fun c_2 => ?_) (fun c_2 => ?_)
    · refine lv_iconst (v := 0) hx hb dX13_off_22 (by decide) ?_
      have hP9 := hP.sub (ws' := []) [] rfl
      have hD9 := hD.sub (ws' := []) [] (by decide) rfl
      refine W.widen (k := 0) (n := 0) (Nat.le_of_ble_eq_true rfl) (Nat.le_of_ble_eq_true rfl) ?_
      exact W.zret (v := 0) hx hb hr (by decide) (fun t ht hW => ⟨⟨0, (), rfl, rfl, by rw [ht]; exact hP9, hD9⟩, hS.F ht⟩) hS.2.2 dX13_off_23
    · exact absurd c_2 (by decide)
  · refine lv_if_eq (tgt := 22) hx hb dX13_off_10 (by decide) (fun c_3 => ?_) (fun c_3 => ?_)
    · exact absurd c_3 (by decide)
    · refine lv_aload_n hx hb dX13_off_13 rfl (lv_at hl 0 rfl) ?_
      refine va_get (D := D) (ci := 13) (v := .ref (g 1)) (C := RX13) (T := TX13) (N := 68) hx hb hts iG13 hown hK.1 hP 1 rfl rfl 4 (by decide) (hts _ gw1126) (fun _ h9 => h9) rfl dX13_off_14 ?_
      refine lv_iload_n hx hb dX13_off_17 rfl (lv_at hl 1 rfl) ?_
      refine va_zald hx hb hK.1 hP 0 3 rfl rfl (xin8 h1_u_1 h2_u_1) dX13_off_18 ?_
      refine lv_if_ne (tgt := 24) hx hb dX13_off_19 (by decide) (fun c_4 => ?_) (fun c_4 => ?_)
      · exact absurd c_4 (by decide)
      · refine lv_iconst (v := 0) hx hb dX13_off_22 (by decide) ?_
        have hP9 := hP.sub (ws' := []) [] rfl
        have hD9 := hD.sub (ws' := []) [] (by decide) rfl
        refine W.widen (k := 0) (n := 0) (Nat.le_of_ble_eq_true rfl) (Nat.le_of_ble_eq_true rfl) ?_
        exact W.zret (v := 0) hx hb hr (by decide) (fun t ht hW => ⟨⟨0, (), rfl, rfl, by rw [ht]; exact hP9, hD9⟩, hS.F ht⟩) hS.2.2 dX13_off_23
set_option maxHeartbeats 4000000 in
set_option maxRecDepth 100000 in
theorem m_claim (l : Launch) (D : va_G) (cy : Nat → ClassId) (z0 : Nat) (g : Nat → Nat) (a : Int32) : xMi l D cy yX13_claim cX13_claim 3 (some .boolean) ({ frames := 1, cells := 0, slots := 0, locals := 23 }) [.ref z0, .int a] [(z0, .inr (13, xM g 0 0 0)), (g 1, .inl (cy 3, 8, .inl (fun _ => 0)))] (S := Unit) (fun r _ => r = 0) (fun _ => []) := by
  intro sz
  refine Met.ofW (cc := cX13_claim) (maxL := 3) (ret := (some .boolean)) (by decide) rfl ?_
  intro p e s m args below meth c s₁ B hml hv
  obtain ⟨rfl, hsz, hP, hK, hD0⟩ := hv
  have hx := B.exec
  have hb := B.bytes
  have hr := B.returns
  have hts0 := atoms_spec (ws := xw yX13_claim cX13_claim 3 (some .boolean)) B.pre
  have hts : ∀ w ∈ xG, w.before _ s = true := fun w h => hts0 w (List.mem_cons_of_mem _ h)
  have hown : s.vm.findClass RX13 = some m.cls := findClass_of_methodNamed B.named
  have hlocks := B.notSynchronized
  subst hsz
  have hD := hD0.self (sz := s.heap.size)
  generalize hAe : va_A [(z0, .inr (13, xM g 0 0 0)), (g 1, .inl (cy 3, 8, .inl (fun _ => 0)))] s.heap.size = A at hD ⊢
  have hA : ∀ q : Nat, s.heap.size ≤ q → A q := fun q h => by rw [← hAe]; exact Or.inr h
  have hS : va_S A s.heap s.heap [] := va_S.rf
  have hl := lv_entry ([.ref z0, .int a]) (n := 3) (Nat.le_of_ble_eq_true rfl)
  rw [lg_entry_eq]
  generalize (lg_sl ([.ref z0, .int a]) ++ List.replicate (3 - (lg_sl ([.ref z0, .int a])).length) Slot.unset).toArray = ls at hl ⊢
  have hl : lv_has ls 3 [(0, .ref z0), (1, .int a)] := hl
  refine lv_aload_n hx hb dX13_claim_0 rfl (lv_at hl 0 rfl) ?_
  refine lv_iconst (v := 0) hx hb dX13_claim_1 (by decide) ?_
  refine va_put (D := D) (ci := 13) (v := .int 0) (ty := .int) (C := RX13) (T := TX13) (N := 68) hx hb hts iG13 tyX13 tyX13_ok nmX13 hown hK.1 hP hD hS 0 rfl rfl 3 (by decide) (hts _ gw1125) (fun _ h9 => h9) rfl (by decide +kernel) rfl rfl (Nat.le_of_ble_eq_true rfl) dX13_claim_2 (fun H locs hP hD hS => ?_)
  have hP : va_P D vwCl [(z0, .inr (13, xM g 0 0 0)), (g 1, .inl (cy 3, 8, .inl (fun _ => 0)))] H := hP
  have hD : va_D A [(z0, .inr (13, xM g 0 0 0)), (g 1, .inl (cy 3, 8, .inl (fun _ => 0)))] := hD
  refine lv_aload_n hx hb dX13_claim_5 rfl (lv_at hl 0 rfl) ?_
  refine x_calli [(z0, .inr (13, xM g 0 0 0))] [(g 1, .inl (cy 3, 8, .inl (fun _ => 0)))] (va_runV (As := []) (rest := []) ⟨hx, hb, hml, hown, hts⟩ (m_takesWord l D cy z0 g H.size) (cwV 0 hts (xV gw1536 gw1538 gs80 gw14 gw1539) rfl rfl rfl (by decide +kernel) ⟨(Nat.le_of_ble_eq_true rfl), (Nat.le_of_ble_eq_true rfl)⟩) (xpreV hK (hP.sub (ws' := [(z0, .inr (13, xM g 0 0 0))]) [0] rfl) (hD.sub (ws' := [(z0, .inr (13, xM g 0 0 0))]) [0] (by decide) rfl) 0 13 rfl rfl rfl) rfl rfl hl.1 rfl (lv_room (Nat.le_of_ble_eq_true rfl)) dX13_claim_6 ⟨(Nat.le_of_ble_eq_true rfl), (Nat.le_of_ble_eq_true rfl)⟩) hP hD hS hA [0] [1] rfl rfl (by decide) (by decide) (fun r_u_1 u_1 H locs hw_u_1 hP hD hS => ?_)
  have hP : va_P D vwCl [(g 1, .inl (cy 3, 8, .inl (fun _ => 0))), (z0, .inr (13, xM g 0 0 0))] H := hP
  have hD : va_D A [(g 1, .inl (cy 3, 8, .inl (fun _ => 0))), (z0, .inr (13, xM g 0 0 0))] := hD
  refine W.widen (k := 0) (n := 0) (Nat.le_of_ble_eq_true rfl) (Nat.le_of_ble_eq_true rfl) ?_
  refine x_cv (y := .int 0) (by rw [hw_u_1]) ?_
  refine lv_istore_n (lv' := [(2, .int 0), (0, .ref z0), (1, .int a)]) hx hb dX13_claim_9 rfl hl (by decide) rfl (fun ls hl => ?_)
  refine lv_aload_n hx hb dX13_claim_10 rfl (lv_at hl 1 rfl) ?_
  refine lv_iload_n hx hb dX13_claim_11 rfl (lv_at hl 2 rfl) ?_
  refine x_calli [(z0, .inr (13, xM g 0 0 0))] [(g 1, .inl (cy 3, 8, .inl (fun _ => 0)))] (va_runV (As := [.int a]) (rest := []) ⟨hx, hb, hml, hown, hts⟩ (m_isHost l D cy z0 g a H.size) (cwV 1 hts (xV gw1519 gw1521 gs78 gw14 gw1522) rfl rfl rfl (by decide +kernel) ⟨(Nat.le_of_ble_eq_true rfl), (Nat.le_of_ble_eq_true rfl)⟩) (xpreV hK (hP.sub (ws' := [(z0, .inr (13, xM g 0 0 0))]) [1] rfl) (hD.sub (ws' := [(z0, .inr (13, xM g 0 0 0))]) [1] (by decide) rfl) 0 13 rfl rfl rfl) rfl rfl hl.1 rfl (lv_room (Nat.le_of_ble_eq_true rfl)) dX13_claim_12 ⟨(Nat.le_of_ble_eq_true rfl), (Nat.le_of_ble_eq_true rfl)⟩) hP hD hS hA [1] [0] rfl rfl (by decide) (by decide) (fun r_u_2 u_2 H locs hw_u_2 hP hD hS => ?_)
  have hP : va_P D vwCl [(g 1, .inl (cy 3, 8, .inl (fun _ => 0))), (z0, .inr (13, xM g 0 0 0))] H := hP
  have hD : va_D A [(g 1, .inl (cy 3, 8, .inl (fun _ => 0))), (z0, .inr (13, xM g 0 0 0))] := hD
  refine W.widen (k := 0) (n := 0) (Nat.le_of_ble_eq_true rfl) (Nat.le_of_ble_eq_true rfl) ?_
  rcases hw_u_2 with ⟨rfl, hb_u_2⟩ | ⟨rfl, h1_u_2, h2_u_2⟩
  · refine lv_if_eq (tgt := 40) hx hb dX13_claim_15 (by decide) (fun c_3 => ?_) (fun c_3 => ?_)
    · refine lv_iconst (v := 0) hx hb dX13_claim_40 (by decide) ?_
      have hP9 := hP.sub (ws' := []) [] rfl
      have hD9 := hD.sub (ws' := []) [] (by decide) rfl
      refine W.widen (k := 0) (n := 0) (Nat.le_of_ble_eq_true rfl) (Nat.le_of_ble_eq_true rfl) ?_
      exact W.zret (v := 0) hx hb hr (by decide) (fun t ht hW => ⟨⟨0, (), rfl, rfl, by rw [ht]; exact hP9, hD9⟩, hS.F ht⟩) hS.2.2 dX13_claim_41
    · exact absurd c_3 (by decide)
  · refine lv_if_eq (tgt := 40) hx hb dX13_claim_15 (by decide) (fun c_4 => ?_) (fun c_4 => ?_)
    · exact absurd c_4 (by decide)
    · refine lv_aload_n hx hb dX13_claim_18 rfl (lv_at hl 1 rfl) ?_
      refine va_get (D := D) (ci := 13) (v := .ref (g 1)) (C := RX13) (T := TX13) (N := 68) hx hb hts iG13 hown hK.1 hP 1 rfl rfl 4 (by decide) (hts _ gw1126) (fun _ h9 => h9) rfl dX13_claim_19 ?_
      refine lv_iload_n hx hb dX13_claim_22 rfl (lv_at hl 2 rfl) ?_
      refine va_zald hx hb hK.1 hP 0 3 rfl rfl (xin8 h1_u_2 h2_u_2) dX13_claim_23 ?_
      refine lv_if_eq (tgt := 40) hx hb dX13_claim_24 (by decide) (fun c_5 => ?_) (fun c_5 => ?_)
      · refine lv_iconst (v := 0) hx hb dX13_claim_40 (by decide) ?_
        have hP9 := hP.sub (ws' := []) [] rfl
        have hD9 := hD.sub (ws' := []) [] (by decide) rfl
        refine W.widen (k := 0) (n := 0) (Nat.le_of_ble_eq_true rfl) (Nat.le_of_ble_eq_true rfl) ?_
        exact W.zret (v := 0) hx hb hr (by decide) (fun t ht hW => ⟨⟨0, (), rfl, rfl, by rw [ht]; exact hP9, hD9⟩, hS.F ht⟩) hS.2.2 dX13_claim_41
      · exact absurd c_5 (by decide)
set_option maxHeartbeats 4000000 in
set_option maxRecDepth 100000 in
theorem m_service (l : Launch) (D : va_G) (cy : Nat → ClassId) (z0 : Nat) (g : Nat → Nat) (a a2 : Int32) : xMi l D cy yX13_service cX13_service 4 (some .int) ({ frames := 1, cells := 0, slots := 0, locals := 23 }) [.ref z0, .int a, .int a2] [(z0, .inr (13, xM g 0 0 0)), (g 1, .inl (cy 3, 8, .inl (fun _ => 0)))] (S := Unit) (fun r _ => r = -1) (fun _ => []) := by
  intro sz
  refine Met.ofW (cc := cX13_service) (maxL := 4) (ret := (some .int)) (by decide) rfl ?_
  intro p e s m args below meth c s₁ B hml hv
  obtain ⟨rfl, hsz, hP, hK, hD0⟩ := hv
  have hx := B.exec
  have hb := B.bytes
  have hr := B.returns
  have hts0 := atoms_spec (ws := xw yX13_service cX13_service 4 (some .int)) B.pre
  have hts : ∀ w ∈ xG, w.before _ s = true := fun w h => hts0 w (List.mem_cons_of_mem _ h)
  have hown : s.vm.findClass RX13 = some m.cls := findClass_of_methodNamed B.named
  have hlocks := B.notSynchronized
  subst hsz
  have hD := hD0.self (sz := s.heap.size)
  generalize hAe : va_A [(z0, .inr (13, xM g 0 0 0)), (g 1, .inl (cy 3, 8, .inl (fun _ => 0)))] s.heap.size = A at hD ⊢
  have hA : ∀ q : Nat, s.heap.size ≤ q → A q := fun q h => by rw [← hAe]; exact Or.inr h
  have hS : va_S A s.heap s.heap [] := va_S.rf
  have hl := lv_entry ([.ref z0, .int a, .int a2]) (n := 4) (Nat.le_of_ble_eq_true rfl)
  rw [lg_entry_eq]
  generalize (lg_sl ([.ref z0, .int a, .int a2]) ++ List.replicate (4 - (lg_sl ([.ref z0, .int a, .int a2])).length) Slot.unset).toArray = ls at hl ⊢
  have hl : lv_has ls 4 [(0, .ref z0), (1, .int a), (2, .int a2)] := hl
  refine lv_aload_n hx hb dX13_service_0 rfl (lv_at hl 0 rfl) ?_
  refine lv_iconst (v := 0) hx hb dX13_service_1 (by decide) ?_
  refine va_put (D := D) (ci := 13) (v := .int 0) (ty := .int) (C := RX13) (T := TX13) (N := 68) hx hb hts iG13 tyX13 tyX13_ok nmX13 hown hK.1 hP hD hS 0 rfl rfl 3 (by decide) (hts _ gw1125) (fun _ h9 => h9) rfl (by decide +kernel) rfl rfl (Nat.le_of_ble_eq_true rfl) dX13_service_2 (fun H locs hP hD hS => ?_)
  have hP : va_P D vwCl [(z0, .inr (13, xM g 0 0 0)), (g 1, .inl (cy 3, 8, .inl (fun _ => 0)))] H := hP
  have hD : va_D A [(z0, .inr (13, xM g 0 0 0)), (g 1, .inl (cy 3, 8, .inl (fun _ => 0)))] := hD
  refine lv_aload_n hx hb dX13_service_5 rfl (lv_at hl 0 rfl) ?_
  refine x_calli [(z0, .inr (13, xM g 0 0 0))] [(g 1, .inl (cy 3, 8, .inl (fun _ => 0)))] (va_runV (As := []) (rest := []) ⟨hx, hb, hml, hown, hts⟩ (m_takesWord l D cy z0 g H.size) (cwV 0 hts (xV gw1536 gw1538 gs80 gw14 gw1539) rfl rfl rfl (by decide +kernel) ⟨(Nat.le_of_ble_eq_true rfl), (Nat.le_of_ble_eq_true rfl)⟩) (xpreV hK (hP.sub (ws' := [(z0, .inr (13, xM g 0 0 0))]) [0] rfl) (hD.sub (ws' := [(z0, .inr (13, xM g 0 0 0))]) [0] (by decide) rfl) 0 13 rfl rfl rfl) rfl rfl hl.1 rfl (lv_room (Nat.le_of_ble_eq_true rfl)) dX13_service_6 ⟨(Nat.le_of_ble_eq_true rfl), (Nat.le_of_ble_eq_true rfl)⟩) hP hD hS hA [0] [1] rfl rfl (by decide) (by decide) (fun r_u_1 u_1 H locs hw_u_1 hP hD hS => ?_)
  have hP : va_P D vwCl [(g 1, .inl (cy 3, 8, .inl (fun _ => 0))), (z0, .inr (13, xM g 0 0 0))] H := hP
  have hD : va_D A [(g 1, .inl (cy 3, 8, .inl (fun _ => 0))), (z0, .inr (13, xM g 0 0 0))] := hD
  refine W.widen (k := 0) (n := 0) (Nat.le_of_ble_eq_true rfl) (Nat.le_of_ble_eq_true rfl) ?_
  refine x_cv (y := .int 0) (by rw [hw_u_1]) ?_
  refine lv_istore_n (lv' := [(3, .int 0), (0, .ref z0), (1, .int a), (2, .int a2)]) hx hb dX13_service_9 rfl hl (by decide) rfl (fun ls hl => ?_)
  refine lv_aload_n hx hb dX13_service_10 rfl (lv_at hl 1 rfl) ?_
  refine lv_iload_n hx hb dX13_service_11 rfl (lv_at hl 2 rfl) ?_
  refine x_calli [(z0, .inr (13, xM g 0 0 0))] [(g 1, .inl (cy 3, 8, .inl (fun _ => 0)))] (va_runV (As := [.int a]) (rest := []) ⟨hx, hb, hml, hown, hts⟩ (m_isHost l D cy z0 g a H.size) (cwV 1 hts (xV gw1519 gw1521 gs78 gw14 gw1522) rfl rfl rfl (by decide +kernel) ⟨(Nat.le_of_ble_eq_true rfl), (Nat.le_of_ble_eq_true rfl)⟩) (xpreV hK (hP.sub (ws' := [(z0, .inr (13, xM g 0 0 0))]) [1] rfl) (hD.sub (ws' := [(z0, .inr (13, xM g 0 0 0))]) [1] (by decide) rfl) 0 13 rfl rfl rfl) rfl rfl hl.1 rfl (lv_room (Nat.le_of_ble_eq_true rfl)) dX13_service_12 ⟨(Nat.le_of_ble_eq_true rfl), (Nat.le_of_ble_eq_true rfl)⟩) hP hD hS hA [1] [0] rfl rfl (by decide) (by decide) (fun r_u_2 u_2 H locs hw_u_2 hP hD hS => ?_)
  have hP : va_P D vwCl [(g 1, .inl (cy 3, 8, .inl (fun _ => 0))), (z0, .inr (13, xM g 0 0 0))] H := hP
  have hD : va_D A [(g 1, .inl (cy 3, 8, .inl (fun _ => 0))), (z0, .inr (13, xM g 0 0 0))] := hD
  refine W.widen (k := 0) (n := 0) (Nat.le_of_ble_eq_true rfl) (Nat.le_of_ble_eq_true rfl) ?_
  rcases hw_u_2 with ⟨rfl, hb_u_2⟩ | ⟨rfl, h1_u_2, h2_u_2⟩
  · refine lv_if_eq (tgt := 52) hx hb dX13_service_15 (by decide) (fun c_3 => ?_) (fun c_3 => ?_)
    · refine lv_iconst (v := (-1)) hx hb dX13_service_52 (by decide) ?_
      have hP9 := hP.sub (ws' := []) [] rfl
      have hD9 := hD.sub (ws' := []) [] (by decide) rfl
      refine W.widen (k := 0) (n := 0) (Nat.le_of_ble_eq_true rfl) (Nat.le_of_ble_eq_true rfl) ?_
      exact W.iret (v := (-1)) hx hb hr (fun t ht hW => ⟨⟨(-1), (), rfl, rfl, by rw [ht]; exact hP9, hD9⟩, hS.F ht⟩) hS.2.2 dX13_service_53
    · exact absurd c_3 (by decide)
  · refine lv_if_eq (tgt := 52) hx hb dX13_service_15 (by decide) (fun c_4 => ?_) (fun c_4 => ?_)
    · exact absurd c_4 (by decide)
    · refine lv_aload_n hx hb dX13_service_18 rfl (lv_at hl 1 rfl) ?_
      refine va_get (D := D) (ci := 13) (v := .ref (g 1)) (C := RX13) (T := TX13) (N := 68) hx hb hts iG13 hown hK.1 hP 1 rfl rfl 4 (by decide) (hts _ gw1126) (fun _ h9 => h9) rfl dX13_service_19 ?_
      refine lv_iload_n hx hb dX13_service_22 rfl (lv_at hl 2 rfl) ?_
      refine va_zald hx hb hK.1 hP 0 3 rfl rfl (xin8 h1_u_2 h2_u_2) dX13_service_23 ?_
      refine lv_if_eq (tgt := 52) hx hb dX13_service_24 (by decide) (fun c_5 => ?_) (fun c_5 => ?_)
      · refine lv_iconst (v := (-1)) hx hb dX13_service_52 (by decide) ?_
        have hP9 := hP.sub (ws' := []) [] rfl
        have hD9 := hD.sub (ws' := []) [] (by decide) rfl
        refine W.widen (k := 0) (n := 0) (Nat.le_of_ble_eq_true rfl) (Nat.le_of_ble_eq_true rfl) ?_
        exact W.iret (v := (-1)) hx hb hr (fun t ht hW => ⟨⟨(-1), (), rfl, rfl, by rw [ht]; exact hP9, hD9⟩, hS.F ht⟩) hS.2.2 dX13_service_53
      · exact absurd c_5 (by decide)
set_option maxHeartbeats 4000000 in
set_option maxRecDepth 100000 in
theorem m_ask (l : Launch) (D : va_G) (cy : Nat → ClassId) (z0 : Nat) (g : Nat → Nat) (a a2 : Int32) : xMi l D cy yX13_ask cX13_ask 6 (some .int) ({ frames := 1, cells := 0, slots := 0, locals := 23 }) [.ref z0, .int a, .int a2] [(z0, .inr (13, xM g 0 0 0)), (g 1, .inl (cy 3, 8, .inl (fun _ => 0)))] (S := Unit) (fun r _ => r = -1) (fun _ => []) := by
  intro sz
  refine Met.ofW (cc := cX13_ask) (maxL := 6) (ret := (some .int)) (by decide) rfl ?_
  intro p e s m args below meth c s₁ B hml hv
  obtain ⟨rfl, hsz, hP, hK, hD0⟩ := hv
  have hx := B.exec
  have hb := B.bytes
  have hr := B.returns
  have hts0 := atoms_spec (ws := xw yX13_ask cX13_ask 6 (some .int)) B.pre
  have hts : ∀ w ∈ xG, w.before _ s = true := fun w h => hts0 w (List.mem_cons_of_mem _ h)
  have hown : s.vm.findClass RX13 = some m.cls := findClass_of_methodNamed B.named
  have hlocks := B.notSynchronized
  subst hsz
  have hD := hD0.self (sz := s.heap.size)
  generalize hAe : va_A [(z0, .inr (13, xM g 0 0 0)), (g 1, .inl (cy 3, 8, .inl (fun _ => 0)))] s.heap.size = A at hD ⊢
  have hA : ∀ q : Nat, s.heap.size ≤ q → A q := fun q h => by rw [← hAe]; exact Or.inr h
  have hS : va_S A s.heap s.heap [] := va_S.rf
  have hl := lv_entry ([.ref z0, .int a, .int a2]) (n := 6) (Nat.le_of_ble_eq_true rfl)
  rw [lg_entry_eq]
  generalize (lg_sl ([.ref z0, .int a, .int a2]) ++ List.replicate (6 - (lg_sl ([.ref z0, .int a, .int a2])).length) Slot.unset).toArray = ls at hl ⊢
  have hl : lv_has ls 6 [(0, .ref z0), (1, .int a), (2, .int a2)] := hl
  refine lv_aload_n hx hb dX13_ask_0 rfl (lv_at hl 0 rfl) ?_
  refine lv_iconst (v := 0) hx hb dX13_ask_1 (by decide) ?_
  refine va_put (D := D) (ci := 13) (v := .int 0) (ty := .int) (C := RX13) (T := TX13) (N := 68) hx hb hts iG13 tyX13 tyX13_ok nmX13 hown hK.1 hP hD hS 0 rfl rfl 3 (by decide) (hts _ gw1125) (fun _ h9 => h9) rfl (by decide +kernel) rfl rfl (Nat.le_of_ble_eq_true rfl) dX13_ask_2 (fun H locs hP hD hS => ?_)
  have hP : va_P D vwCl [(z0, .inr (13, xM g 0 0 0)), (g 1, .inl (cy 3, 8, .inl (fun _ => 0)))] H := hP
  have hD : va_D A [(z0, .inr (13, xM g 0 0 0)), (g 1, .inl (cy 3, 8, .inl (fun _ => 0)))] := hD
  refine lv_aload_n hx hb dX13_ask_5 rfl (lv_at hl 0 rfl) ?_
  refine x_calli [(z0, .inr (13, xM g 0 0 0))] [(g 1, .inl (cy 3, 8, .inl (fun _ => 0)))] (va_runV (As := []) (rest := []) ⟨hx, hb, hml, hown, hts⟩ (m_takesWord l D cy z0 g H.size) (cwV 0 hts (xV gw1536 gw1538 gs80 gw14 gw1539) rfl rfl rfl (by decide +kernel) ⟨(Nat.le_of_ble_eq_true rfl), (Nat.le_of_ble_eq_true rfl)⟩) (xpreV hK (hP.sub (ws' := [(z0, .inr (13, xM g 0 0 0))]) [0] rfl) (hD.sub (ws' := [(z0, .inr (13, xM g 0 0 0))]) [0] (by decide) rfl) 0 13 rfl rfl rfl) rfl rfl hl.1 rfl (lv_room (Nat.le_of_ble_eq_true rfl)) dX13_ask_6 ⟨(Nat.le_of_ble_eq_true rfl), (Nat.le_of_ble_eq_true rfl)⟩) hP hD hS hA [0] [1] rfl rfl (by decide) (by decide) (fun r_u_1 u_1 H locs hw_u_1 hP hD hS => ?_)
  have hP : va_P D vwCl [(g 1, .inl (cy 3, 8, .inl (fun _ => 0))), (z0, .inr (13, xM g 0 0 0))] H := hP
  have hD : va_D A [(g 1, .inl (cy 3, 8, .inl (fun _ => 0))), (z0, .inr (13, xM g 0 0 0))] := hD
  refine W.widen (k := 0) (n := 0) (Nat.le_of_ble_eq_true rfl) (Nat.le_of_ble_eq_true rfl) ?_
  refine x_cv (y := .int 0) (by rw [hw_u_1]) ?_
  refine lv_istore_n (lv' := [(3, .int 0), (0, .ref z0), (1, .int a), (2, .int a2)]) hx hb dX13_ask_9 rfl hl (by decide) rfl (fun ls hl => ?_)
  refine lv_aload_n hx hb dX13_ask_10 rfl (lv_at hl 1 rfl) ?_
  refine lv_iload_n hx hb dX13_ask_11 rfl (lv_at hl 2 rfl) ?_
  refine x_calli [(z0, .inr (13, xM g 0 0 0))] [(g 1, .inl (cy 3, 8, .inl (fun _ => 0)))] (va_runV (As := [.int a]) (rest := []) ⟨hx, hb, hml, hown, hts⟩ (m_isHost l D cy z0 g a H.size) (cwV 1 hts (xV gw1519 gw1521 gs78 gw14 gw1522) rfl rfl rfl (by decide +kernel) ⟨(Nat.le_of_ble_eq_true rfl), (Nat.le_of_ble_eq_true rfl)⟩) (xpreV hK (hP.sub (ws' := [(z0, .inr (13, xM g 0 0 0))]) [1] rfl) (hD.sub (ws' := [(z0, .inr (13, xM g 0 0 0))]) [1] (by decide) rfl) 0 13 rfl rfl rfl) rfl rfl hl.1 rfl (lv_room (Nat.le_of_ble_eq_true rfl)) dX13_ask_12 ⟨(Nat.le_of_ble_eq_true rfl), (Nat.le_of_ble_eq_true rfl)⟩) hP hD hS hA [1] [0] rfl rfl (by decide) (by decide) (fun r_u_2 u_2 H locs hw_u_2 hP hD hS => ?_)
  have hP : va_P D vwCl [(g 1, .inl (cy 3, 8, .inl (fun _ => 0))), (z0, .inr (13, xM g 0 0 0))] H := hP
  have hD : va_D A [(g 1, .inl (cy 3, 8, .inl (fun _ => 0))), (z0, .inr (13, xM g 0 0 0))] := hD
  refine W.widen (k := 0) (n := 0) (Nat.le_of_ble_eq_true rfl) (Nat.le_of_ble_eq_true rfl) ?_
  rcases hw_u_2 with ⟨rfl, hb_u_2⟩ | ⟨rfl, h1_u_2, h2_u_2⟩
  · refine lv_if_eq (tgt := 41) hx hb dX13_ask_15 (by decide) (fun c_3 => ?_) (fun c_3 => ?_)
    · refine lv_iconst (v := (-1)) hx hb dX13_ask_41 (by decide) ?_
      have hP9 := hP.sub (ws' := []) [] rfl
      have hD9 := hD.sub (ws' := []) [] (by decide) rfl
      refine W.widen (k := 0) (n := 0) (Nat.le_of_ble_eq_true rfl) (Nat.le_of_ble_eq_true rfl) ?_
      exact W.iret (v := (-1)) hx hb hr (fun t ht hW => ⟨⟨(-1), (), rfl, rfl, by rw [ht]; exact hP9, hD9⟩, hS.F ht⟩) hS.2.2 dX13_ask_42
    · exact absurd c_3 (by decide)
  · refine lv_if_eq (tgt := 41) hx hb dX13_ask_15 (by decide) (fun c_4 => ?_) (fun c_4 => ?_)
    · exact absurd c_4 (by decide)
    · refine lv_aload_n hx hb dX13_ask_18 rfl (lv_at hl 1 rfl) ?_
      refine va_get (D := D) (ci := 13) (v := .ref (g 1)) (C := RX13) (T := TX13) (N := 68) hx hb hts iG13 hown hK.1 hP 1 rfl rfl 4 (by decide) (hts _ gw1126) (fun _ h9 => h9) rfl dX13_ask_19 ?_
      refine lv_iload_n hx hb dX13_ask_22 rfl (lv_at hl 2 rfl) ?_
      refine va_zald hx hb hK.1 hP 0 3 rfl rfl (xin8 h1_u_2 h2_u_2) dX13_ask_23 ?_
      refine lv_if_eq (tgt := 41) hx hb dX13_ask_24 (by decide) (fun c_5 => ?_) (fun c_5 => ?_)
      · refine lv_iconst (v := (-1)) hx hb dX13_ask_41 (by decide) ?_
        have hP9 := hP.sub (ws' := []) [] rfl
        have hD9 := hD.sub (ws' := []) [] (by decide) rfl
        refine W.widen (k := 0) (n := 0) (Nat.le_of_ble_eq_true rfl) (Nat.le_of_ble_eq_true rfl) ?_
        exact W.iret (v := (-1)) hx hb hr (fun t ht hW => ⟨⟨(-1), (), rfl, rfl, by rw [ht]; exact hP9, hD9⟩, hS.F ht⟩) hS.2.2 dX13_ask_42
      · exact absurd c_5 (by decide)
set_option maxHeartbeats 4000000 in
set_option maxRecDepth 100000 in
theorem m_lose (l : Launch) (D : va_G) (cy : Nat → ClassId) (z0 : Nat) (g : Nat → Nat) (a a2 : Int32) : xMi l D cy yX13_lose cX13_lose 3 (some .boolean) ({ frames := 1, cells := 0, slots := 0, locals := 21 }) [.ref z0, .int a, .int a2] [(z0, .inr (13, xM g 0 0 0)), (g 1, .inl (cy 3, 8, .inl (fun _ => 0)))] (S := Unit) (fun r _ => r = 0) (fun _ => []) := by
  intro sz
  refine Met.ofW (cc := cX13_lose) (maxL := 3) (ret := (some .boolean)) (by decide) rfl ?_
  intro p e s m args below meth c s₁ B hml hv
  obtain ⟨rfl, hsz, hP, hK, hD0⟩ := hv
  have hx := B.exec
  have hb := B.bytes
  have hr := B.returns
  have hts0 := atoms_spec (ws := xw yX13_lose cX13_lose 3 (some .boolean)) B.pre
  have hts : ∀ w ∈ xG, w.before _ s = true := fun w h => hts0 w (List.mem_cons_of_mem _ h)
  have hown : s.vm.findClass RX13 = some m.cls := findClass_of_methodNamed B.named
  have hlocks := B.notSynchronized
  subst hsz
  have hD := hD0.self (sz := s.heap.size)
  generalize hAe : va_A [(z0, .inr (13, xM g 0 0 0)), (g 1, .inl (cy 3, 8, .inl (fun _ => 0)))] s.heap.size = A at hD ⊢
  have hA : ∀ q : Nat, s.heap.size ≤ q → A q := fun q h => by rw [← hAe]; exact Or.inr h
  have hS : va_S A s.heap s.heap [] := va_S.rf
  have hl := lv_entry ([.ref z0, .int a, .int a2]) (n := 3) (Nat.le_of_ble_eq_true rfl)
  rw [lg_entry_eq]
  generalize (lg_sl ([.ref z0, .int a, .int a2]) ++ List.replicate (3 - (lg_sl ([.ref z0, .int a, .int a2])).length) Slot.unset).toArray = ls at hl ⊢
  have hl : lv_has ls 3 [(0, .ref z0), (1, .int a), (2, .int a2)] := hl
  refine lv_aload_n hx hb dX13_lose_0 rfl (lv_at hl 0 rfl) ?_
  refine lv_iconst (v := 0) hx hb dX13_lose_1 (by decide) ?_
  refine va_put (D := D) (ci := 13) (v := .int 0) (ty := .int) (C := RX13) (T := TX13) (N := 68) hx hb hts iG13 tyX13 tyX13_ok nmX13 hown hK.1 hP hD hS 0 rfl rfl 3 (by decide) (hts _ gw1125) (fun _ h9 => h9) rfl (by decide +kernel) rfl rfl (Nat.le_of_ble_eq_true rfl) dX13_lose_2 (fun H locs hP hD hS => ?_)
  have hP : va_P D vwCl [(z0, .inr (13, xM g 0 0 0)), (g 1, .inl (cy 3, 8, .inl (fun _ => 0)))] H := hP
  have hD : va_D A [(z0, .inr (13, xM g 0 0 0)), (g 1, .inl (cy 3, 8, .inl (fun _ => 0)))] := hD
  refine lv_aload_n hx hb dX13_lose_5 rfl (lv_at hl 0 rfl) ?_
  refine lv_iload_n hx hb dX13_lose_6 rfl (lv_at hl 1 rfl) ?_
  refine x_calli [(z0, .inr (13, xM g 0 0 0))] [(g 1, .inl (cy 3, 8, .inl (fun _ => 0)))] (va_runV (As := [.int a]) (rest := []) ⟨hx, hb, hml, hown, hts⟩ (m_isHost l D cy z0 g a H.size) (cwV 1 hts (xV gw1519 gw1521 gs78 gw14 gw1522) rfl rfl rfl (by decide +kernel) ⟨(Nat.le_of_ble_eq_true rfl), (Nat.le_of_ble_eq_true rfl)⟩) (xpreV hK (hP.sub (ws' := [(z0, .inr (13, xM g 0 0 0))]) [0] rfl) (hD.sub (ws' := [(z0, .inr (13, xM g 0 0 0))]) [0] (by decide) rfl) 0 13 rfl rfl rfl) rfl rfl hl.1 rfl (lv_room (Nat.le_of_ble_eq_true rfl)) dX13_lose_7 ⟨(Nat.le_of_ble_eq_true rfl), (Nat.le_of_ble_eq_true rfl)⟩) hP hD hS hA [0] [1] rfl rfl (by decide) (by decide) (fun r_u_1 u_1 H locs hw_u_1 hP hD hS => ?_)
  have hP : va_P D vwCl [(g 1, .inl (cy 3, 8, .inl (fun _ => 0))), (z0, .inr (13, xM g 0 0 0))] H := hP
  have hD : va_D A [(g 1, .inl (cy 3, 8, .inl (fun _ => 0))), (z0, .inr (13, xM g 0 0 0))] := hD
  refine W.widen (k := 0) (n := 0) (Nat.le_of_ble_eq_true rfl) (Nat.le_of_ble_eq_true rfl) ?_
  rcases hw_u_1 with ⟨rfl, hb_u_1⟩ | ⟨rfl, h1_u_1, h2_u_1⟩
  · refine lv_if_eq (tgt := 33) hx hb dX13_lose_10 (by decide) (fun c_2 => ?_) (fun c_2 => ?_)
    · refine lv_iconst (v := 0) hx hb dX13_lose_33 (by decide) ?_
      have hP9 := hP.sub (ws' := []) [] rfl
      have hD9 := hD.sub (ws' := []) [] (by decide) rfl
      refine W.widen (k := 0) (n := 0) (Nat.le_of_ble_eq_true rfl) (Nat.le_of_ble_eq_true rfl) ?_
      exact W.zret (v := 0) hx hb hr (by decide) (fun t ht hW => ⟨⟨0, (), rfl, rfl, by rw [ht]; exact hP9, hD9⟩, hS.F ht⟩) hS.2.2 dX13_lose_34
    · exact absurd c_2 (by decide)
  · refine lv_if_eq (tgt := 33) hx hb dX13_lose_10 (by decide) (fun c_3 => ?_) (fun c_3 => ?_)
    · exact absurd c_3 (by decide)
    · refine lv_aload_n hx hb dX13_lose_13 rfl (lv_at hl 0 rfl) ?_
      refine va_get (D := D) (ci := 13) (v := .ref (g 1)) (C := RX13) (T := TX13) (N := 68) hx hb hts iG13 hown hK.1 hP 1 rfl rfl 4 (by decide) (hts _ gw1126) (fun _ h9 => h9) rfl dX13_lose_14 ?_
      refine lv_iload_n hx hb dX13_lose_17 rfl (lv_at hl 1 rfl) ?_
      refine va_zald hx hb hK.1 hP 0 3 rfl rfl (xin8 h1_u_1 h2_u_1) dX13_lose_18 ?_
      refine lv_if_eq (tgt := 33) hx hb dX13_lose_19 (by decide) (fun c_4 => ?_) (fun c_4 => ?_)
      · refine lv_iconst (v := 0) hx hb dX13_lose_33 (by decide) ?_
        have hP9 := hP.sub (ws' := []) [] rfl
        have hD9 := hD.sub (ws' := []) [] (by decide) rfl
        refine W.widen (k := 0) (n := 0) (Nat.le_of_ble_eq_true rfl) (Nat.le_of_ble_eq_true rfl) ?_
        exact W.zret (v := 0) hx hb hr (by decide) (fun t ht hW => ⟨⟨0, (), rfl, rfl, by rw [ht]; exact hP9, hD9⟩, hS.F ht⟩) hS.2.2 dX13_lose_34
      · exact absurd c_4 (by decide)
set_option maxHeartbeats 4000000 in
set_option maxRecDepth 100000 in
theorem m_give (l : Launch) (D : va_G) (cy : Nat → ClassId) (z0 : Nat) (g : Nat → Nat) (a : Int32) : xMi l D cy yX13_give cX13_give 3 (some .int) ({ frames := 1, cells := 0, slots := 0, locals := 21 }) [.ref z0, .int a] [(z0, .inr (13, xM g 0 0 0)), (g 1, .inl (cy 3, 8, .inl (fun _ => 0)))] (S := Unit) (fun r _ => r = -1) (fun _ => []) := by
  intro sz
  refine Met.ofW (cc := cX13_give) (maxL := 3) (ret := (some .int)) (by decide) rfl ?_
  intro p e s m args below meth c s₁ B hml hv
  obtain ⟨rfl, hsz, hP, hK, hD0⟩ := hv
  have hx := B.exec
  have hb := B.bytes
  have hr := B.returns
  have hts0 := atoms_spec (ws := xw yX13_give cX13_give 3 (some .int)) B.pre
  have hts : ∀ w ∈ xG, w.before _ s = true := fun w h => hts0 w (List.mem_cons_of_mem _ h)
  have hown : s.vm.findClass RX13 = some m.cls := findClass_of_methodNamed B.named
  have hlocks := B.notSynchronized
  subst hsz
  have hD := hD0.self (sz := s.heap.size)
  generalize hAe : va_A [(z0, .inr (13, xM g 0 0 0)), (g 1, .inl (cy 3, 8, .inl (fun _ => 0)))] s.heap.size = A at hD ⊢
  have hA : ∀ q : Nat, s.heap.size ≤ q → A q := fun q h => by rw [← hAe]; exact Or.inr h
  have hS : va_S A s.heap s.heap [] := va_S.rf
  have hl := lv_entry ([.ref z0, .int a]) (n := 3) (Nat.le_of_ble_eq_true rfl)
  rw [lg_entry_eq]
  generalize (lg_sl ([.ref z0, .int a]) ++ List.replicate (3 - (lg_sl ([.ref z0, .int a])).length) Slot.unset).toArray = ls at hl ⊢
  have hl : lv_has ls 3 [(0, .ref z0), (1, .int a)] := hl
  refine lv_aload_n hx hb dX13_give_0 rfl (lv_at hl 0 rfl) ?_
  refine lv_iconst (v := 0) hx hb dX13_give_1 (by decide) ?_
  refine va_put (D := D) (ci := 13) (v := .int 0) (ty := .int) (C := RX13) (T := TX13) (N := 68) hx hb hts iG13 tyX13 tyX13_ok nmX13 hown hK.1 hP hD hS 0 rfl rfl 3 (by decide) (hts _ gw1125) (fun _ h9 => h9) rfl (by decide +kernel) rfl rfl (Nat.le_of_ble_eq_true rfl) dX13_give_2 (fun H locs hP hD hS => ?_)
  have hP : va_P D vwCl [(z0, .inr (13, xM g 0 0 0)), (g 1, .inl (cy 3, 8, .inl (fun _ => 0)))] H := hP
  have hD : va_D A [(z0, .inr (13, xM g 0 0 0)), (g 1, .inl (cy 3, 8, .inl (fun _ => 0)))] := hD
  refine lv_aload_n hx hb dX13_give_5 rfl (lv_at hl 0 rfl) ?_
  refine lv_aload_n hx hb dX13_give_6 rfl (lv_at hl 0 rfl) ?_
  refine va_get (D := D) (ci := 13) (v := .int 0) (C := RX13) (T := TX13) (N := 68) hx hb hts iG13 hown hK.1 hP 0 rfl rfl 2 (by decide) (hts _ gw1124) (fun _ h9 => h9) rfl dX13_give_7 ?_
  refine va_put (D := D) (ci := 13) (v := .int 0) (ty := .int) (C := RX13) (T := TX13) (N := 68) hx hb hts iG13 tyX13 tyX13_ok nmX13 hown hK.1 hP hD hS 0 rfl rfl 58 (by decide) (hts _ gw1180) (fun _ h9 => h9) rfl (by decide +kernel) rfl rfl (Nat.le_of_ble_eq_true rfl) dX13_give_10 (fun H locs hP hD hS => ?_)
  have hP : va_P D vwCl [(z0, .inr (13, xM g 0 0 0)), (g 1, .inl (cy 3, 8, .inl (fun _ => 0)))] H := hP
  have hD : va_D A [(z0, .inr (13, xM g 0 0 0)), (g 1, .inl (cy 3, 8, .inl (fun _ => 0)))] := hD
  refine lv_aload_n hx hb dX13_give_13 rfl (lv_at hl 0 rfl) ?_
  refine lv_iconst (v := 0) hx hb dX13_give_14 (by decide) ?_
  refine va_put (D := D) (ci := 13) (v := .int 0) (ty := .int) (C := RX13) (T := TX13) (N := 68) hx hb hts iG13 tyX13 tyX13_ok nmX13 hown hK.1 hP hD hS 0 rfl rfl 2 (by decide) (hts _ gw1124) (fun _ h9 => h9) rfl (by decide +kernel) rfl rfl (Nat.le_of_ble_eq_true rfl) dX13_give_15 (fun H locs hP hD hS => ?_)
  have hP : va_P D vwCl [(z0, .inr (13, xM g 0 0 0)), (g 1, .inl (cy 3, 8, .inl (fun _ => 0)))] H := hP
  have hD : va_D A [(z0, .inr (13, xM g 0 0 0)), (g 1, .inl (cy 3, 8, .inl (fun _ => 0)))] := hD
  refine lv_iconst (v := 0) hx hb dX13_give_18 (by decide) ?_
  refine lv_istore_n (lv' := [(2, .int 0), (0, .ref z0), (1, .int a)]) hx hb dX13_give_19 rfl hl (by decide) rfl (fun ls hl => ?_)
  refine lv_iload_n hx hb dX13_give_20 rfl (lv_at hl 0 rfl) ?_
  refine lv_aload_n hx hb dX13_give_21 rfl (lv_at hl 1 rfl) ?_
  refine va_get (D := D) (ci := 13) (v := .int 0) (C := RX13) (T := TX13) (N := 68) hx hb hts iG13 hown hK.1 hP 0 rfl rfl 58 (by decide) (hts _ gw1180) (fun _ h9 => h9) rfl dX13_give_22 ?_
  refine lv_icmp_ge (tgt := 46) hx hb dX13_give_25 (by decide) (fun c_1 => ?_) (fun c_1 => ?_)
  · refine lv_aload_n hx hb dX13_give_46 rfl (lv_at hl 1 rfl) ?_
    refine lv_iload_n hx hb dX13_give_47 rfl (lv_at hl 2 rfl) ?_
    refine x_calli [(z0, .inr (13, xM g 0 0 0))] [(g 1, .inl (cy 3, 8, .inl (fun _ => 0)))] (va_runV (As := [.int a]) (rest := []) ⟨hx, hb, hml, hown, hts⟩ (m_isHost l D cy z0 g a H.size) (cwV 1 hts (xV gw1519 gw1521 gs78 gw14 gw1522) rfl rfl rfl (by decide +kernel) ⟨(Nat.le_of_ble_eq_true rfl), (Nat.le_of_ble_eq_true rfl)⟩) (xpreV hK (hP.sub (ws' := [(z0, .inr (13, xM g 0 0 0))]) [0] rfl) (hD.sub (ws' := [(z0, .inr (13, xM g 0 0 0))]) [0] (by decide) rfl) 0 13 rfl rfl rfl) rfl rfl hl.1 rfl (lv_room (Nat.le_of_ble_eq_true rfl)) dX13_give_48 ⟨(Nat.le_of_ble_eq_true rfl), (Nat.le_of_ble_eq_true rfl)⟩) hP hD hS hA [0] [1] rfl rfl (by decide) (by decide) (fun r_u_2 u_2 H locs hw_u_2 hP hD hS => ?_)
    have hP : va_P D vwCl [(g 1, .inl (cy 3, 8, .inl (fun _ => 0))), (z0, .inr (13, xM g 0 0 0))] H := hP
    have hD : va_D A [(g 1, .inl (cy 3, 8, .inl (fun _ => 0))), (z0, .inr (13, xM g 0 0 0))] := hD
    refine W.widen (k := 0) (n := 0) (Nat.le_of_ble_eq_true rfl) (Nat.le_of_ble_eq_true rfl) ?_
    rcases hw_u_2 with ⟨rfl, hb_u_2⟩ | ⟨rfl, h1_u_2, h2_u_2⟩
    · refine lv_if_eq (tgt := 63) hx hb dX13_give_51 (by decide) (fun c_3 => ?_) (fun c_3 => ?_)
      · refine lv_iconst (v := (-1)) hx hb dX13_give_63 (by decide) ?_
        have hP9 := hP.sub (ws' := []) [] rfl
        have hD9 := hD.sub (ws' := []) [] (by decide) rfl
        refine W.widen (k := 0) (n := 0) (Nat.le_of_ble_eq_true rfl) (Nat.le_of_ble_eq_true rfl) ?_
        exact W.iret (v := (-1)) hx hb hr (fun t ht hW => ⟨⟨(-1), (), rfl, rfl, by rw [ht]; exact hP9, hD9⟩, hS.F ht⟩) hS.2.2 dX13_give_64
      · exact absurd c_3 (by decide)
    · refine lv_if_eq (tgt := 63) hx hb dX13_give_51 (by decide) (fun c_4 => ?_) (fun c_4 => ?_)
      · exact absurd c_4 (by decide)
      · refine lv_aload_n hx hb dX13_give_54 rfl (lv_at hl 1 rfl) ?_
        refine va_get (D := D) (ci := 13) (v := .ref (g 1)) (C := RX13) (T := TX13) (N := 68) hx hb hts iG13 hown hK.1 hP 1 rfl rfl 4 (by decide) (hts _ gw1126) (fun _ h9 => h9) rfl dX13_give_55 ?_
        refine lv_iload_n hx hb dX13_give_58 rfl (lv_at hl 2 rfl) ?_
        refine va_zald hx hb hK.1 hP 0 3 rfl rfl (xin8 h1_u_2 h2_u_2) dX13_give_59 ?_
        refine lv_if_ne (tgt := 65) hx hb dX13_give_60 (by decide) (fun c_5 => ?_) (fun c_5 => ?_)
        · exact absurd c_5 (by decide)
        · refine lv_iconst (v := (-1)) hx hb dX13_give_63 (by decide) ?_
          have hP9 := hP.sub (ws' := []) [] rfl
          have hD9 := hD.sub (ws' := []) [] (by decide) rfl
          refine W.widen (k := 0) (n := 0) (Nat.le_of_ble_eq_true rfl) (Nat.le_of_ble_eq_true rfl) ?_
          exact W.iret (v := (-1)) hx hb hr (fun t ht hW => ⟨⟨(-1), (), rfl, rfl, by rw [ht]; exact hP9, hD9⟩, hS.F ht⟩) hS.2.2 dX13_give_64
  · exact absurd c_1 (by decide)
set_option maxHeartbeats 4000000 in
set_option maxRecDepth 100000 in
theorem m_sign (l : Launch) (D : va_G) (cy : Nat → ClassId) (z0 : Nat) (g : Nat → Nat) (a a2 : Int32) : xMi l D cy yX13_sign cX13_sign 3 (some .int) ({ frames := 1, cells := 0, slots := 0, locals := 21 }) [.ref z0, .int a, .int a2] [(z0, .inr (13, xM g 0 0 0)), (g 1, .inl (cy 3, 8, .inl (fun _ => 0)))] (S := Unit) (fun r _ => r = -1) (fun _ => []) := by
  intro sz
  refine Met.ofW (cc := cX13_sign) (maxL := 3) (ret := (some .int)) (by decide) rfl ?_
  intro p e s m args below meth c s₁ B hml hv
  obtain ⟨rfl, hsz, hP, hK, hD0⟩ := hv
  have hx := B.exec
  have hb := B.bytes
  have hr := B.returns
  have hts0 := atoms_spec (ws := xw yX13_sign cX13_sign 3 (some .int)) B.pre
  have hts : ∀ w ∈ xG, w.before _ s = true := fun w h => hts0 w (List.mem_cons_of_mem _ h)
  have hown : s.vm.findClass RX13 = some m.cls := findClass_of_methodNamed B.named
  have hlocks := B.notSynchronized
  subst hsz
  have hD := hD0.self (sz := s.heap.size)
  generalize hAe : va_A [(z0, .inr (13, xM g 0 0 0)), (g 1, .inl (cy 3, 8, .inl (fun _ => 0)))] s.heap.size = A at hD ⊢
  have hA : ∀ q : Nat, s.heap.size ≤ q → A q := fun q h => by rw [← hAe]; exact Or.inr h
  have hS : va_S A s.heap s.heap [] := va_S.rf
  have hl := lv_entry ([.ref z0, .int a, .int a2]) (n := 3) (Nat.le_of_ble_eq_true rfl)
  rw [lg_entry_eq]
  generalize (lg_sl ([.ref z0, .int a, .int a2]) ++ List.replicate (3 - (lg_sl ([.ref z0, .int a, .int a2])).length) Slot.unset).toArray = ls at hl ⊢
  have hl : lv_has ls 3 [(0, .ref z0), (1, .int a), (2, .int a2)] := hl
  refine lv_aload_n hx hb dX13_sign_0 rfl (lv_at hl 0 rfl) ?_
  refine lv_iconst (v := 0) hx hb dX13_sign_1 (by decide) ?_
  refine va_put (D := D) (ci := 13) (v := .int 0) (ty := .int) (C := RX13) (T := TX13) (N := 68) hx hb hts iG13 tyX13 tyX13_ok nmX13 hown hK.1 hP hD hS 0 rfl rfl 3 (by decide) (hts _ gw1125) (fun _ h9 => h9) rfl (by decide +kernel) rfl rfl (Nat.le_of_ble_eq_true rfl) dX13_sign_2 (fun H locs hP hD hS => ?_)
  have hP : va_P D vwCl [(z0, .inr (13, xM g 0 0 0)), (g 1, .inl (cy 3, 8, .inl (fun _ => 0)))] H := hP
  have hD : va_D A [(z0, .inr (13, xM g 0 0 0)), (g 1, .inl (cy 3, 8, .inl (fun _ => 0)))] := hD
  refine lv_aload_n hx hb dX13_sign_5 rfl (lv_at hl 0 rfl) ?_
  refine lv_iload_n hx hb dX13_sign_6 rfl (lv_at hl 1 rfl) ?_
  refine x_calli [(z0, .inr (13, xM g 0 0 0))] [(g 1, .inl (cy 3, 8, .inl (fun _ => 0)))] (va_runV (As := [.int a]) (rest := []) ⟨hx, hb, hml, hown, hts⟩ (m_isHost l D cy z0 g a H.size) (cwV 1 hts (xV gw1519 gw1521 gs78 gw14 gw1522) rfl rfl rfl (by decide +kernel) ⟨(Nat.le_of_ble_eq_true rfl), (Nat.le_of_ble_eq_true rfl)⟩) (xpreV hK (hP.sub (ws' := [(z0, .inr (13, xM g 0 0 0))]) [0] rfl) (hD.sub (ws' := [(z0, .inr (13, xM g 0 0 0))]) [0] (by decide) rfl) 0 13 rfl rfl rfl) rfl rfl hl.1 rfl (lv_room (Nat.le_of_ble_eq_true rfl)) dX13_sign_7 ⟨(Nat.le_of_ble_eq_true rfl), (Nat.le_of_ble_eq_true rfl)⟩) hP hD hS hA [0] [1] rfl rfl (by decide) (by decide) (fun r_u_1 u_1 H locs hw_u_1 hP hD hS => ?_)
  have hP : va_P D vwCl [(g 1, .inl (cy 3, 8, .inl (fun _ => 0))), (z0, .inr (13, xM g 0 0 0))] H := hP
  have hD : va_D A [(g 1, .inl (cy 3, 8, .inl (fun _ => 0))), (z0, .inr (13, xM g 0 0 0))] := hD
  refine W.widen (k := 0) (n := 0) (Nat.le_of_ble_eq_true rfl) (Nat.le_of_ble_eq_true rfl) ?_
  rcases hw_u_1 with ⟨rfl, hb_u_1⟩ | ⟨rfl, h1_u_1, h2_u_1⟩
  · refine lv_if_eq (tgt := 65) hx hb dX13_sign_10 (by decide) (fun c_2 => ?_) (fun c_2 => ?_)
    · refine lv_iconst (v := (-1)) hx hb dX13_sign_65 (by decide) ?_
      have hP9 := hP.sub (ws' := []) [] rfl
      have hD9 := hD.sub (ws' := []) [] (by decide) rfl
      refine W.widen (k := 0) (n := 0) (Nat.le_of_ble_eq_true rfl) (Nat.le_of_ble_eq_true rfl) ?_
      exact W.iret (v := (-1)) hx hb hr (fun t ht hW => ⟨⟨(-1), (), rfl, rfl, by rw [ht]; exact hP9, hD9⟩, hS.F ht⟩) hS.2.2 dX13_sign_66
    · exact absurd c_2 (by decide)
  · refine lv_if_eq (tgt := 65) hx hb dX13_sign_10 (by decide) (fun c_3 => ?_) (fun c_3 => ?_)
    · exact absurd c_3 (by decide)
    · refine lv_aload_n hx hb dX13_sign_13 rfl (lv_at hl 0 rfl) ?_
      refine va_get (D := D) (ci := 13) (v := .ref (g 1)) (C := RX13) (T := TX13) (N := 68) hx hb hts iG13 hown hK.1 hP 1 rfl rfl 4 (by decide) (hts _ gw1126) (fun _ h9 => h9) rfl dX13_sign_14 ?_
      refine lv_iload_n hx hb dX13_sign_17 rfl (lv_at hl 1 rfl) ?_
      refine va_zald hx hb hK.1 hP 0 3 rfl rfl (xin8 h1_u_1 h2_u_1) dX13_sign_18 ?_
      refine lv_if_eq (tgt := 65) hx hb dX13_sign_19 (by decide) (fun c_4 => ?_) (fun c_4 => ?_)
      · refine lv_iconst (v := (-1)) hx hb dX13_sign_65 (by decide) ?_
        have hP9 := hP.sub (ws' := []) [] rfl
        have hD9 := hD.sub (ws' := []) [] (by decide) rfl
        refine W.widen (k := 0) (n := 0) (Nat.le_of_ble_eq_true rfl) (Nat.le_of_ble_eq_true rfl) ?_
        exact W.iret (v := (-1)) hx hb hr (fun t ht hW => ⟨⟨(-1), (), rfl, rfl, by rw [ht]; exact hP9, hD9⟩, hS.F ht⟩) hS.2.2 dX13_sign_66
      · exact absurd c_4 (by decide)
set_option maxHeartbeats 4000000 in
set_option maxRecDepth 100000 in
theorem m_entry (l : Launch) (D : va_G) (cy : Nat → ClassId) (z0 : Nat) (g : Nat → Nat) (a a2 a3 : Int32) : xMi l D cy yX13_entry cX13_entry 5 (some .int) ({ frames := 1, cells := 0, slots := 0, locals := 21 }) [.ref z0, .int a, .int a2, .int a3] [(z0, .inr (13, xM g 0 0 0)), (g 1, .inl (cy 3, 8, .inl (fun _ => 0)))] (S := Unit) (fun r _ => r = -1) (fun _ => []) := by
  intro sz
  refine Met.ofW (cc := cX13_entry) (maxL := 5) (ret := (some .int)) (by decide) rfl ?_
  intro p e s m args below meth c s₁ B hml hv
  obtain ⟨rfl, hsz, hP, hK, hD0⟩ := hv
  have hx := B.exec
  have hb := B.bytes
  have hr := B.returns
  have hts0 := atoms_spec (ws := xw yX13_entry cX13_entry 5 (some .int)) B.pre
  have hts : ∀ w ∈ xG, w.before _ s = true := fun w h => hts0 w (List.mem_cons_of_mem _ h)
  have hown : s.vm.findClass RX13 = some m.cls := findClass_of_methodNamed B.named
  have hlocks := B.notSynchronized
  subst hsz
  have hD := hD0.self (sz := s.heap.size)
  generalize hAe : va_A [(z0, .inr (13, xM g 0 0 0)), (g 1, .inl (cy 3, 8, .inl (fun _ => 0)))] s.heap.size = A at hD ⊢
  have hA : ∀ q : Nat, s.heap.size ≤ q → A q := fun q h => by rw [← hAe]; exact Or.inr h
  have hS : va_S A s.heap s.heap [] := va_S.rf
  have hl := lv_entry ([.ref z0, .int a, .int a2, .int a3]) (n := 5) (Nat.le_of_ble_eq_true rfl)
  rw [lg_entry_eq]
  generalize (lg_sl ([.ref z0, .int a, .int a2, .int a3]) ++ List.replicate (5 - (lg_sl ([.ref z0, .int a, .int a2, .int a3])).length) Slot.unset).toArray = ls at hl ⊢
  have hl : lv_has ls 5 [(0, .ref z0), (1, .int a), (2, .int a2), (3, .int a3)] := hl
  refine lv_aload_n hx hb dX13_entry_0 rfl (lv_at hl 0 rfl) ?_
  refine lv_iconst (v := 0) hx hb dX13_entry_1 (by decide) ?_
  refine va_put (D := D) (ci := 13) (v := .int 0) (ty := .int) (C := RX13) (T := TX13) (N := 68) hx hb hts iG13 tyX13 tyX13_ok nmX13 hown hK.1 hP hD hS 0 rfl rfl 3 (by decide) (hts _ gw1125) (fun _ h9 => h9) rfl (by decide +kernel) rfl rfl (Nat.le_of_ble_eq_true rfl) dX13_entry_2 (fun H locs hP hD hS => ?_)
  have hP : va_P D vwCl [(z0, .inr (13, xM g 0 0 0)), (g 1, .inl (cy 3, 8, .inl (fun _ => 0)))] H := hP
  have hD : va_D A [(z0, .inr (13, xM g 0 0 0)), (g 1, .inl (cy 3, 8, .inl (fun _ => 0)))] := hD
  refine lv_aload_n hx hb dX13_entry_5 rfl (lv_at hl 0 rfl) ?_
  refine lv_iload_n hx hb dX13_entry_6 rfl (lv_at hl 1 rfl) ?_
  refine x_calli [(z0, .inr (13, xM g 0 0 0))] [(g 1, .inl (cy 3, 8, .inl (fun _ => 0)))] (va_runV (As := [.int a]) (rest := []) ⟨hx, hb, hml, hown, hts⟩ (m_isHost l D cy z0 g a H.size) (cwV 1 hts (xV gw1519 gw1521 gs78 gw14 gw1522) rfl rfl rfl (by decide +kernel) ⟨(Nat.le_of_ble_eq_true rfl), (Nat.le_of_ble_eq_true rfl)⟩) (xpreV hK (hP.sub (ws' := [(z0, .inr (13, xM g 0 0 0))]) [0] rfl) (hD.sub (ws' := [(z0, .inr (13, xM g 0 0 0))]) [0] (by decide) rfl) 0 13 rfl rfl rfl) rfl rfl hl.1 rfl (lv_room (Nat.le_of_ble_eq_true rfl)) dX13_entry_7 ⟨(Nat.le_of_ble_eq_true rfl), (Nat.le_of_ble_eq_true rfl)⟩) hP hD hS hA [0] [1] rfl rfl (by decide) (by decide) (fun r_u_1 u_1 H locs hw_u_1 hP hD hS => ?_)
  have hP : va_P D vwCl [(g 1, .inl (cy 3, 8, .inl (fun _ => 0))), (z0, .inr (13, xM g 0 0 0))] H := hP
  have hD : va_D A [(g 1, .inl (cy 3, 8, .inl (fun _ => 0))), (z0, .inr (13, xM g 0 0 0))] := hD
  refine W.widen (k := 0) (n := 0) (Nat.le_of_ble_eq_true rfl) (Nat.le_of_ble_eq_true rfl) ?_
  rcases hw_u_1 with ⟨rfl, hb_u_1⟩ | ⟨rfl, h1_u_1, h2_u_1⟩
  · refine lv_if_eq (tgt := 36) hx hb dX13_entry_10 (by decide) (fun c_2 => ?_) (fun c_2 => ?_)
    · refine lv_iconst (v := (-1)) hx hb dX13_entry_36 (by decide) ?_
      have hP9 := hP.sub (ws' := []) [] rfl
      have hD9 := hD.sub (ws' := []) [] (by decide) rfl
      refine W.widen (k := 0) (n := 0) (Nat.le_of_ble_eq_true rfl) (Nat.le_of_ble_eq_true rfl) ?_
      exact W.iret (v := (-1)) hx hb hr (fun t ht hW => ⟨⟨(-1), (), rfl, rfl, by rw [ht]; exact hP9, hD9⟩, hS.F ht⟩) hS.2.2 dX13_entry_37
    · exact absurd c_2 (by decide)
  · refine lv_if_eq (tgt := 36) hx hb dX13_entry_10 (by decide) (fun c_3 => ?_) (fun c_3 => ?_)
    · exact absurd c_3 (by decide)
    · refine lv_aload_n hx hb dX13_entry_13 rfl (lv_at hl 0 rfl) ?_
      refine va_get (D := D) (ci := 13) (v := .ref (g 1)) (C := RX13) (T := TX13) (N := 68) hx hb hts iG13 hown hK.1 hP 1 rfl rfl 4 (by decide) (hts _ gw1126) (fun _ h9 => h9) rfl dX13_entry_14 ?_
      refine lv_iload_n hx hb dX13_entry_17 rfl (lv_at hl 1 rfl) ?_
      refine va_zald hx hb hK.1 hP 0 3 rfl rfl (xin8 h1_u_1 h2_u_1) dX13_entry_18 ?_
      refine lv_if_eq (tgt := 36) hx hb dX13_entry_19 (by decide) (fun c_4 => ?_) (fun c_4 => ?_)
      · refine lv_iconst (v := (-1)) hx hb dX13_entry_36 (by decide) ?_
        have hP9 := hP.sub (ws' := []) [] rfl
        have hD9 := hD.sub (ws' := []) [] (by decide) rfl
        refine W.widen (k := 0) (n := 0) (Nat.le_of_ble_eq_true rfl) (Nat.le_of_ble_eq_true rfl) ?_
        exact W.iret (v := (-1)) hx hb hr (fun t ht hW => ⟨⟨(-1), (), rfl, rfl, by rw [ht]; exact hP9, hD9⟩, hS.F ht⟩) hS.2.2 dX13_entry_37
      · exact absurd c_4 (by decide)
set_option maxHeartbeats 4000000 in
set_option maxRecDepth 100000 in
theorem m_close (l : Launch) (D : va_G) (cy : Nat → ClassId) (z0 : Nat) (g : Nat → Nat) (a a2 : Int32) : xMi l D cy yX13_close cX13_close 3 (some .boolean) ({ frames := 2, cells := 0, slots := 0, locals := 43 }) [.ref z0, .int a, .int a2] [(z0, .inr (13, xM g 0 0 0)), (g 1, .inl (cy 3, 8, .inl (fun _ => 0)))] (S := Unit) (fun r _ => r = 0) (fun _ => []) := by
  intro sz
  refine Met.ofW (cc := cX13_close) (maxL := 3) (ret := (some .boolean)) (by decide) rfl ?_
  intro p e s m args below meth c s₁ B hml hv
  obtain ⟨rfl, hsz, hP, hK, hD0⟩ := hv
  have hx := B.exec
  have hb := B.bytes
  have hr := B.returns
  have hts0 := atoms_spec (ws := xw yX13_close cX13_close 3 (some .boolean)) B.pre
  have hts : ∀ w ∈ xG, w.before _ s = true := fun w h => hts0 w (List.mem_cons_of_mem _ h)
  have hown : s.vm.findClass RX13 = some m.cls := findClass_of_methodNamed B.named
  have hlocks := B.notSynchronized
  subst hsz
  have hD := hD0.self (sz := s.heap.size)
  generalize hAe : va_A [(z0, .inr (13, xM g 0 0 0)), (g 1, .inl (cy 3, 8, .inl (fun _ => 0)))] s.heap.size = A at hD ⊢
  have hA : ∀ q : Nat, s.heap.size ≤ q → A q := fun q h => by rw [← hAe]; exact Or.inr h
  have hS : va_S A s.heap s.heap [] := va_S.rf
  have hl := lv_entry ([.ref z0, .int a, .int a2]) (n := 3) (Nat.le_of_ble_eq_true rfl)
  rw [lg_entry_eq]
  generalize (lg_sl ([.ref z0, .int a, .int a2]) ++ List.replicate (3 - (lg_sl ([.ref z0, .int a, .int a2])).length) Slot.unset).toArray = ls at hl ⊢
  have hl : lv_has ls 3 [(0, .ref z0), (1, .int a), (2, .int a2)] := hl
  refine lv_aload_n hx hb dX13_close_0 rfl (lv_at hl 0 rfl) ?_
  refine lv_iconst (v := 0) hx hb dX13_close_1 (by decide) ?_
  refine va_put (D := D) (ci := 13) (v := .int 0) (ty := .int) (C := RX13) (T := TX13) (N := 68) hx hb hts iG13 tyX13 tyX13_ok nmX13 hown hK.1 hP hD hS 0 rfl rfl 3 (by decide) (hts _ gw1125) (fun _ h9 => h9) rfl (by decide +kernel) rfl rfl (Nat.le_of_ble_eq_true rfl) dX13_close_2 (fun H locs hP hD hS => ?_)
  have hP : va_P D vwCl [(z0, .inr (13, xM g 0 0 0)), (g 1, .inl (cy 3, 8, .inl (fun _ => 0)))] H := hP
  have hD : va_D A [(z0, .inr (13, xM g 0 0 0)), (g 1, .inl (cy 3, 8, .inl (fun _ => 0)))] := hD
  refine lv_aload_n hx hb dX13_close_5 rfl (lv_at hl 0 rfl) ?_
  refine lv_iload_n hx hb dX13_close_6 rfl (lv_at hl 1 rfl) ?_
  refine lv_iload_n hx hb dX13_close_7 rfl (lv_at hl 2 rfl) ?_
  refine x_calli [(z0, .inr (13, xM g 0 0 0)), (g 1, .inl (cy 3, 8, .inl (fun _ => 0)))] [] (va_runV (As := [.int a, .int a2]) (rest := []) ⟨hx, hb, hml, hown, hts⟩ (m_isOpen l D cy z0 g a a2 H.size) (cwV 2 hts (xV gw1553 gw1555 gs81 gw14 gw1556) rfl rfl rfl (by decide +kernel) ⟨(Nat.le_of_ble_eq_true rfl), (Nat.le_of_ble_eq_true rfl)⟩) (xpreV hK (hP.sub (ws' := [(z0, .inr (13, xM g 0 0 0)), (g 1, .inl (cy 3, 8, .inl (fun _ => 0)))]) [0, 1] rfl) (hD.sub (ws' := [(z0, .inr (13, xM g 0 0 0)), (g 1, .inl (cy 3, 8, .inl (fun _ => 0)))]) [0, 1] (by decide) rfl) 0 13 rfl rfl rfl) rfl rfl hl.1 rfl (lv_room (Nat.le_of_ble_eq_true rfl)) dX13_close_8 ⟨(Nat.le_of_ble_eq_true rfl), (Nat.le_of_ble_eq_true rfl)⟩) hP hD hS hA [0, 1] [] rfl rfl (by decide) (by decide) (fun r_u_1 u_1 H locs hw_u_1 hP hD hS => ?_)
  have hP : va_P D vwCl [] H := hP
  have hD : va_D A [] := hD
  refine W.widen (k := 0) (n := 0) (Nat.le_of_ble_eq_true rfl) (Nat.le_of_ble_eq_true rfl) ?_
  refine x_cv (y := .int 0) (by rw [hw_u_1]) ?_
  refine lv_if_ne (tgt := 16) hx hb dX13_close_11 (by decide) (fun c_2 => ?_) (fun c_2 => ?_)
  · exact absurd c_2 (by decide)
  · refine lv_iconst (v := 0) hx hb dX13_close_14 (by decide) ?_
    have hP9 := hP.sub (ws' := []) [] rfl
    have hD9 := hD.sub (ws' := []) [] (by decide) rfl
    refine W.widen (k := 0) (n := 0) (Nat.le_of_ble_eq_true rfl) (Nat.le_of_ble_eq_true rfl) ?_
    exact W.zret (v := 0) hx hb hr (by decide) (fun t ht hW => ⟨⟨0, (), rfl, rfl, by rw [ht]; exact hP9, hD9⟩, hS.F ht⟩) hS.2.2 dX13_close_15
set_option maxHeartbeats 4000000 in
set_option maxRecDepth 100000 in
theorem m_answers (l : Launch) (D : va_G) (cy : Nat → ClassId) (z0 : Nat) (g : Nat → Nat) (a a2 : Int32) : xMi l D cy yX13_answers cX13_answers 4 (some .int) ({ frames := 2, cells := 0, slots := 0, locals := 43 }) [.ref z0, .int a, .int a2] [(z0, .inr (13, xM g 0 0 0)), (g 1, .inl (cy 3, 8, .inl (fun _ => 0)))] (S := Unit) (fun r _ => r = -1) (fun _ => []) := by
  intro sz
  refine Met.ofW (cc := cX13_answers) (maxL := 4) (ret := (some .int)) (by decide) rfl ?_
  intro p e s m args below meth c s₁ B hml hv
  obtain ⟨rfl, hsz, hP, hK, hD0⟩ := hv
  have hx := B.exec
  have hb := B.bytes
  have hr := B.returns
  have hts0 := atoms_spec (ws := xw yX13_answers cX13_answers 4 (some .int)) B.pre
  have hts : ∀ w ∈ xG, w.before _ s = true := fun w h => hts0 w (List.mem_cons_of_mem _ h)
  have hown : s.vm.findClass RX13 = some m.cls := findClass_of_methodNamed B.named
  have hlocks := B.notSynchronized
  subst hsz
  have hD := hD0.self (sz := s.heap.size)
  generalize hAe : va_A [(z0, .inr (13, xM g 0 0 0)), (g 1, .inl (cy 3, 8, .inl (fun _ => 0)))] s.heap.size = A at hD ⊢
  have hA : ∀ q : Nat, s.heap.size ≤ q → A q := fun q h => by rw [← hAe]; exact Or.inr h
  have hS : va_S A s.heap s.heap [] := va_S.rf
  have hl := lv_entry ([.ref z0, .int a, .int a2]) (n := 4) (Nat.le_of_ble_eq_true rfl)
  rw [lg_entry_eq]
  generalize (lg_sl ([.ref z0, .int a, .int a2]) ++ List.replicate (4 - (lg_sl ([.ref z0, .int a, .int a2])).length) Slot.unset).toArray = ls at hl ⊢
  have hl : lv_has ls 4 [(0, .ref z0), (1, .int a), (2, .int a2)] := hl
  refine lv_aload_n hx hb dX13_answers_0 rfl (lv_at hl 0 rfl) ?_
  refine lv_iconst (v := 0) hx hb dX13_answers_1 (by decide) ?_
  refine va_put (D := D) (ci := 13) (v := .int 0) (ty := .int) (C := RX13) (T := TX13) (N := 68) hx hb hts iG13 tyX13 tyX13_ok nmX13 hown hK.1 hP hD hS 0 rfl rfl 3 (by decide) (hts _ gw1125) (fun _ h9 => h9) rfl (by decide +kernel) rfl rfl (Nat.le_of_ble_eq_true rfl) dX13_answers_2 (fun H locs hP hD hS => ?_)
  have hP : va_P D vwCl [(z0, .inr (13, xM g 0 0 0)), (g 1, .inl (cy 3, 8, .inl (fun _ => 0)))] H := hP
  have hD : va_D A [(z0, .inr (13, xM g 0 0 0)), (g 1, .inl (cy 3, 8, .inl (fun _ => 0)))] := hD
  refine lv_aload_n hx hb dX13_answers_5 rfl (lv_at hl 0 rfl) ?_
  refine lv_iload_n hx hb dX13_answers_6 rfl (lv_at hl 1 rfl) ?_
  refine lv_iload_n hx hb dX13_answers_7 rfl (lv_at hl 2 rfl) ?_
  refine x_calli [(z0, .inr (13, xM g 0 0 0)), (g 1, .inl (cy 3, 8, .inl (fun _ => 0)))] [] (va_runV (As := [.int a, .int a2]) (rest := []) ⟨hx, hb, hml, hown, hts⟩ (m_isOpen l D cy z0 g a a2 H.size) (cwV 2 hts (xV gw1553 gw1555 gs81 gw14 gw1556) rfl rfl rfl (by decide +kernel) ⟨(Nat.le_of_ble_eq_true rfl), (Nat.le_of_ble_eq_true rfl)⟩) (xpreV hK (hP.sub (ws' := [(z0, .inr (13, xM g 0 0 0)), (g 1, .inl (cy 3, 8, .inl (fun _ => 0)))]) [0, 1] rfl) (hD.sub (ws' := [(z0, .inr (13, xM g 0 0 0)), (g 1, .inl (cy 3, 8, .inl (fun _ => 0)))]) [0, 1] (by decide) rfl) 0 13 rfl rfl rfl) rfl rfl hl.1 rfl (lv_room (Nat.le_of_ble_eq_true rfl)) dX13_answers_8 ⟨(Nat.le_of_ble_eq_true rfl), (Nat.le_of_ble_eq_true rfl)⟩) hP hD hS hA [0, 1] [] rfl rfl (by decide) (by decide) (fun r_u_1 u_1 H locs hw_u_1 hP hD hS => ?_)
  have hP : va_P D vwCl [] H := hP
  have hD : va_D A [] := hD
  refine W.widen (k := 0) (n := 0) (Nat.le_of_ble_eq_true rfl) (Nat.le_of_ble_eq_true rfl) ?_
  refine x_cv (y := .int 0) (by rw [hw_u_1]) ?_
  refine lv_if_ne (tgt := 16) hx hb dX13_answers_11 (by decide) (fun c_2 => ?_) (fun c_2 => ?_)
  · exact absurd c_2 (by decide)
  · refine lv_iconst (v := (-1)) hx hb dX13_answers_14 (by decide) ?_
    have hP9 := hP.sub (ws' := []) [] rfl
    have hD9 := hD.sub (ws' := []) [] (by decide) rfl
    refine W.widen (k := 0) (n := 0) (Nat.le_of_ble_eq_true rfl) (Nat.le_of_ble_eq_true rfl) ?_
    exact W.iret (v := (-1)) hx hb hr (fun t ht hW => ⟨⟨(-1), (), rfl, rfl, by rw [ht]; exact hP9, hD9⟩, hS.F ht⟩) hS.2.2 dX13_answers_15
set_option maxHeartbeats 4000000 in
set_option maxRecDepth 100000 in
theorem m_found (l : Launch) (D : va_G) (cy : Nat → ClassId) (z0 : Nat) (g : Nat → Nat) (a a2 a3 a4 : Int32) : xMi l D cy yX13_found cX13_found 6 (some .int) ({ frames := 2, cells := 0, slots := 0, locals := 43 }) [.ref z0, .int a, .int a2, .int a3, .int a4] [(z0, .inr (13, xM g 0 0 0)), (g 1, .inl (cy 3, 8, .inl (fun _ => 0)))] (S := Unit) (fun r _ => r = -1) (fun _ => []) := by
  intro sz
  refine Met.ofW (cc := cX13_found) (maxL := 6) (ret := (some .int)) (by decide) rfl ?_
  intro p e s m args below meth c s₁ B hml hv
  obtain ⟨rfl, hsz, hP, hK, hD0⟩ := hv
  have hx := B.exec
  have hb := B.bytes
  have hr := B.returns
  have hts0 := atoms_spec (ws := xw yX13_found cX13_found 6 (some .int)) B.pre
  have hts : ∀ w ∈ xG, w.before _ s = true := fun w h => hts0 w (List.mem_cons_of_mem _ h)
  have hown : s.vm.findClass RX13 = some m.cls := findClass_of_methodNamed B.named
  have hlocks := B.notSynchronized
  subst hsz
  have hD := hD0.self (sz := s.heap.size)
  generalize hAe : va_A [(z0, .inr (13, xM g 0 0 0)), (g 1, .inl (cy 3, 8, .inl (fun _ => 0)))] s.heap.size = A at hD ⊢
  have hA : ∀ q : Nat, s.heap.size ≤ q → A q := fun q h => by rw [← hAe]; exact Or.inr h
  have hS : va_S A s.heap s.heap [] := va_S.rf
  have hl := lv_entry ([.ref z0, .int a, .int a2, .int a3, .int a4]) (n := 6) (Nat.le_of_ble_eq_true rfl)
  rw [lg_entry_eq]
  generalize (lg_sl ([.ref z0, .int a, .int a2, .int a3, .int a4]) ++ List.replicate (6 - (lg_sl ([.ref z0, .int a, .int a2, .int a3, .int a4])).length) Slot.unset).toArray = ls at hl ⊢
  have hl : lv_has ls 6 [(0, .ref z0), (1, .int a), (2, .int a2), (3, .int a3), (4, .int a4)] := hl
  refine lv_aload_n hx hb dX13_found_0 rfl (lv_at hl 0 rfl) ?_
  refine lv_iconst (v := 0) hx hb dX13_found_1 (by decide) ?_
  refine va_put (D := D) (ci := 13) (v := .int 0) (ty := .int) (C := RX13) (T := TX13) (N := 68) hx hb hts iG13 tyX13 tyX13_ok nmX13 hown hK.1 hP hD hS 0 rfl rfl 3 (by decide) (hts _ gw1125) (fun _ h9 => h9) rfl (by decide +kernel) rfl rfl (Nat.le_of_ble_eq_true rfl) dX13_found_2 (fun H locs hP hD hS => ?_)
  have hP : va_P D vwCl [(z0, .inr (13, xM g 0 0 0)), (g 1, .inl (cy 3, 8, .inl (fun _ => 0)))] H := hP
  have hD : va_D A [(z0, .inr (13, xM g 0 0 0)), (g 1, .inl (cy 3, 8, .inl (fun _ => 0)))] := hD
  refine lv_aload_n hx hb dX13_found_5 rfl (lv_at hl 0 rfl) ?_
  refine lv_iload_n hx hb dX13_found_6 rfl (lv_at hl 1 rfl) ?_
  refine lv_iload_n hx hb dX13_found_7 rfl (lv_at hl 2 rfl) ?_
  refine x_calli [(z0, .inr (13, xM g 0 0 0)), (g 1, .inl (cy 3, 8, .inl (fun _ => 0)))] [] (va_runV (As := [.int a, .int a2]) (rest := []) ⟨hx, hb, hml, hown, hts⟩ (m_isOpen l D cy z0 g a a2 H.size) (cwV 2 hts (xV gw1553 gw1555 gs81 gw14 gw1556) rfl rfl rfl (by decide +kernel) ⟨(Nat.le_of_ble_eq_true rfl), (Nat.le_of_ble_eq_true rfl)⟩) (xpreV hK (hP.sub (ws' := [(z0, .inr (13, xM g 0 0 0)), (g 1, .inl (cy 3, 8, .inl (fun _ => 0)))]) [0, 1] rfl) (hD.sub (ws' := [(z0, .inr (13, xM g 0 0 0)), (g 1, .inl (cy 3, 8, .inl (fun _ => 0)))]) [0, 1] (by decide) rfl) 0 13 rfl rfl rfl) rfl rfl hl.1 rfl (lv_room (Nat.le_of_ble_eq_true rfl)) dX13_found_8 ⟨(Nat.le_of_ble_eq_true rfl), (Nat.le_of_ble_eq_true rfl)⟩) hP hD hS hA [0, 1] [] rfl rfl (by decide) (by decide) (fun r_u_1 u_1 H locs hw_u_1 hP hD hS => ?_)
  have hP : va_P D vwCl [] H := hP
  have hD : va_D A [] := hD
  refine W.widen (k := 0) (n := 0) (Nat.le_of_ble_eq_true rfl) (Nat.le_of_ble_eq_true rfl) ?_
  refine x_cv (y := .int 0) (by rw [hw_u_1]) ?_
  refine lv_if_eq (tgt := 18) hx hb dX13_found_11 (by decide) (fun c_2 => ?_) (fun c_2 => ?_)
  · refine lv_iconst (v := (-1)) hx hb dX13_found_18 (by decide) ?_
    have hP9 := hP.sub (ws' := []) [] rfl
    have hD9 := hD.sub (ws' := []) [] (by decide) rfl
    refine W.widen (k := 0) (n := 0) (Nat.le_of_ble_eq_true rfl) (Nat.le_of_ble_eq_true rfl) ?_
    exact W.iret (v := (-1)) hx hb hr (fun t ht hW => ⟨⟨(-1), (), rfl, rfl, by rw [ht]; exact hP9, hD9⟩, hS.F ht⟩) hS.2.2 dX13_found_19
  · exact absurd c_2 (by decide)
set_option maxHeartbeats 4000000 in
set_option maxRecDepth 100000 in
theorem m_holders (l : Launch) (D : va_G) (cy : Nat → ClassId) (z0 : Nat) (g : Nat → Nat) (a : Int32) : xMi l D cy yX13_holders cX13_holders 4 (some .int) ({ frames := 0, cells := 0, slots := 0, locals := 0 }) [.ref z0, .int a] [(z0, .inr (13, xM g 0 0 0)), (g 1, .inl (cy 3, 8, .inl (fun _ => 0)))] (S := Unit) (fun r _ => r = 0) (fun _ => []) := by
  intro sz
  refine Met.ofW (cc := cX13_holders) (maxL := 4) (ret := (some .int)) (by decide) rfl ?_
  intro p e s m args below meth c s₁ B hml hv
  obtain ⟨rfl, hsz, hP, hK, hD0⟩ := hv
  have hx := B.exec
  have hb := B.bytes
  have hr := B.returns
  have hts0 := atoms_spec (ws := xw yX13_holders cX13_holders 4 (some .int)) B.pre
  have hts : ∀ w ∈ xG, w.before _ s = true := fun w h => hts0 w (List.mem_cons_of_mem _ h)
  have hown : s.vm.findClass RX13 = some m.cls := findClass_of_methodNamed B.named
  have hlocks := B.notSynchronized
  subst hsz
  have hD := hD0.self (sz := s.heap.size)
  generalize hAe : va_A [(z0, .inr (13, xM g 0 0 0)), (g 1, .inl (cy 3, 8, .inl (fun _ => 0)))] s.heap.size = A at hD ⊢
  have hA : ∀ q : Nat, s.heap.size ≤ q → A q := fun q h => by rw [← hAe]; exact Or.inr h
  have hS : va_S A s.heap s.heap [] := va_S.rf
  have hl := lv_entry ([.ref z0, .int a]) (n := 4) (Nat.le_of_ble_eq_true rfl)
  rw [lg_entry_eq]
  generalize (lg_sl ([.ref z0, .int a]) ++ List.replicate (4 - (lg_sl ([.ref z0, .int a])).length) Slot.unset).toArray = ls at hl ⊢
  have hl : lv_has ls 4 [(0, .ref z0), (1, .int a)] := hl
  refine lv_aload_n hx hb dX13_holders_0 rfl (lv_at hl 0 rfl) ?_
  refine lv_iconst (v := 0) hx hb dX13_holders_1 (by decide) ?_
  refine va_put (D := D) (ci := 13) (v := .int 0) (ty := .int) (C := RX13) (T := TX13) (N := 68) hx hb hts iG13 tyX13 tyX13_ok nmX13 hown hK.1 hP hD hS 0 rfl rfl 3 (by decide) (hts _ gw1125) (fun _ h9 => h9) rfl (by decide +kernel) rfl rfl (Nat.le_of_ble_eq_true rfl) dX13_holders_2 (fun H locs hP hD hS => ?_)
  have hP : va_P D vwCl [(z0, .inr (13, xM g 0 0 0)), (g 1, .inl (cy 3, 8, .inl (fun _ => 0)))] H := hP
  have hD : va_D A [(z0, .inr (13, xM g 0 0 0)), (g 1, .inl (cy 3, 8, .inl (fun _ => 0)))] := hD
  refine lv_iconst (v := 0) hx hb dX13_holders_5 (by decide) ?_
  refine lv_istore_n (lv' := [(2, .int 0), (0, .ref z0), (1, .int a)]) hx hb dX13_holders_6 rfl hl (by decide) rfl (fun ls hl => ?_)
  refine lv_iconst (v := 0) hx hb dX13_holders_7 (by decide) ?_
  refine lv_istore_n (lv' := [(3, .int 0), (2, .int 0), (0, .ref z0), (1, .int a)]) hx hb dX13_holders_8 rfl hl (by decide) rfl (fun ls hl => ?_)
  refine lv_iload_n hx hb dX13_holders_9 rfl (lv_at hl 0 rfl) ?_
  refine lv_bipush (v := 8) hx hb dX13_holders_10 (by decide) ?_
  refine lv_icmp_ge (tgt := 56) hx hb dX13_holders_12 (by decide) (fun c_1 => ?_) (fun c_1 => ?_)
  · exact absurd c_1 (by decide)
  · refine lv_iload_n hx hb dX13_holders_15 rfl (lv_at hl 1 rfl) ?_
    refine lv_aload_n hx hb dX13_holders_16 rfl (lv_at hl 2 rfl) ?_
    refine va_get (D := D) (ci := 13) (v := .ref (g 1)) (C := RX13) (T := TX13) (N := 68) hx hb hts iG13 hown hK.1 hP 0 rfl rfl 4 (by decide) (hts _ gw1126) (fun _ h9 => h9) rfl dX13_holders_17 ?_
    refine lv_iload_n hx hb dX13_holders_20 rfl (lv_at hl 0 rfl) ?_
    refine va_zald hx hb hK.1 hP 1 3 rfl rfl (show vp_in 0 8 by unfold vp_in; decide) dX13_holders_21 ?_
    refine lv_if_eq (tgt := 47) hx hb dX13_holders_22 (by decide) (fun c_2 => ?_) (fun c_2 => ?_)
    · refine lv_iconst (v := 0) hx hb dX13_holders_47 (by decide) ?_
      refine lv_iadd hx hb dX13_holders_48 ?_
      refine x_ci (y := 0) (by decide) ?_
      refine lv_istore_n (lv' := [(2, .int 0), (3, .int 0), (0, .ref z0), (1, .int a)]) hx hb dX13_holders_49 rfl hl (by decide) rfl (fun ls hl => ?_)
      refine lv_iinc (v := 1) (lv' := [(3, .int 1), (2, .int 0), (0, .ref z0), (1, .int a)]) hx hb dX13_holders_50 hl (k := 1) rfl (by decide) (by decide) rfl (fun ls hl => ?_)
      refine lv_goto (tgt := 9) hx hb dX13_holders_53 (by decide) ?_
      refine lv_iload_n hx hb dX13_holders_9 rfl (lv_at hl 0 rfl) ?_
      refine lv_bipush (v := 8) hx hb dX13_holders_10 (by decide) ?_
      refine lv_icmp_ge (tgt := 56) hx hb dX13_holders_12 (by decide) (fun c_3 => ?_) (fun c_3 => ?_)
      · exact absurd c_3 (by decide)
      · refine lv_iload_n hx hb dX13_holders_15 rfl (lv_at hl 1 rfl) ?_
        refine lv_aload_n hx hb dX13_holders_16 rfl (lv_at hl 2 rfl) ?_
        refine va_get (D := D) (ci := 13) (v := .ref (g 1)) (C := RX13) (T := TX13) (N := 68) hx hb hts iG13 hown hK.1 hP 0 rfl rfl 4 (by decide) (hts _ gw1126) (fun _ h9 => h9) rfl dX13_holders_17 ?_
        refine lv_iload_n hx hb dX13_holders_20 rfl (lv_at hl 0 rfl) ?_
        refine va_zald hx hb hK.1 hP 1 3 rfl rfl (show vp_in 1 8 by unfold vp_in; decide) dX13_holders_21 ?_
        refine lv_if_eq (tgt := 47) hx hb dX13_holders_22 (by decide) (fun c_4 => ?_) (fun c_4 => ?_)
        · refine lv_iconst (v := 0) hx hb dX13_holders_47 (by decide) ?_
          refine lv_iadd hx hb dX13_holders_48 ?_
          refine x_ci (y := 0) (by decide) ?_
          refine lv_istore_n (lv' := [(2, .int 0), (3, .int 1), (0, .ref z0), (1, .int a)]) hx hb dX13_holders_49 rfl hl (by decide) rfl (fun ls hl => ?_)
          refine lv_iinc (v := 2) (lv' := [(3, .int 2), (2, .int 0), (0, .ref z0), (1, .int a)]) hx hb dX13_holders_50 hl (k := 1) rfl (by decide) (by decide) rfl (fun ls hl => ?_)
          refine lv_goto (tgt := 9) hx hb dX13_holders_53 (by decide) ?_
          refine lv_iload_n hx hb dX13_holders_9 rfl (lv_at hl 0 rfl) ?_
          refine lv_bipush (v := 8) hx hb dX13_holders_10 (by decide) ?_
          refine lv_icmp_ge (tgt := 56) hx hb dX13_holders_12 (by decide) (fun c_5 => ?_) (fun c_5 => ?_)
          · exact absurd c_5 (by decide)
          · refine lv_iload_n hx hb dX13_holders_15 rfl (lv_at hl 1 rfl) ?_
            refine lv_aload_n hx hb dX13_holders_16 rfl (lv_at hl 2 rfl) ?_
            refine va_get (D := D) (ci := 13) (v := .ref (g 1)) (C := RX13) (T := TX13) (N := 68) hx hb hts iG13 hown hK.1 hP 0 rfl rfl 4 (by decide) (hts _ gw1126) (fun _ h9 => h9) rfl dX13_holders_17 ?_
            refine lv_iload_n hx hb dX13_holders_20 rfl (lv_at hl 0 rfl) ?_
            refine va_zald hx hb hK.1 hP 1 3 rfl rfl (show vp_in 2 8 by unfold vp_in; decide) dX13_holders_21 ?_
            refine lv_if_eq (tgt := 47) hx hb dX13_holders_22 (by decide) (fun c_6 => ?_) (fun c_6 => ?_)
            · refine lv_iconst (v := 0) hx hb dX13_holders_47 (by decide) ?_
              refine lv_iadd hx hb dX13_holders_48 ?_
              refine x_ci (y := 0) (by decide) ?_
              refine lv_istore_n (lv' := [(2, .int 0), (3, .int 2), (0, .ref z0), (1, .int a)]) hx hb dX13_holders_49 rfl hl (by decide) rfl (fun ls hl => ?_)
              refine lv_iinc (v := 3) (lv' := [(3, .int 3), (2, .int 0), (0, .ref z0), (1, .int a)]) hx hb dX13_holders_50 hl (k := 1) rfl (by decide) (by decide) rfl (fun ls hl => ?_)
              refine lv_goto (tgt := 9) hx hb dX13_holders_53 (by decide) ?_
              refine lv_iload_n hx hb dX13_holders_9 rfl (lv_at hl 0 rfl) ?_
              refine lv_bipush (v := 8) hx hb dX13_holders_10 (by decide) ?_
              refine lv_icmp_ge (tgt := 56) hx hb dX13_holders_12 (by decide) (fun c_7 => ?_) (fun c_7 => ?_)
              · exact absurd c_7 (by decide)
              · refine lv_iload_n hx hb dX13_holders_15 rfl (lv_at hl 1 rfl) ?_
                refine lv_aload_n hx hb dX13_holders_16 rfl (lv_at hl 2 rfl) ?_
                refine va_get (D := D) (ci := 13) (v := .ref (g 1)) (C := RX13) (T := TX13) (N := 68) hx hb hts iG13 hown hK.1 hP 0 rfl rfl 4 (by decide) (hts _ gw1126) (fun _ h9 => h9) rfl dX13_holders_17 ?_
                refine lv_iload_n hx hb dX13_holders_20 rfl (lv_at hl 0 rfl) ?_
                refine va_zald hx hb hK.1 hP 1 3 rfl rfl (show vp_in 3 8 by unfold vp_in; decide) dX13_holders_21 ?_
                refine lv_if_eq (tgt := 47) hx hb dX13_holders_22 (by decide) (fun c_8 => ?_) (fun c_8 => ?_)
                · refine lv_iconst (v := 0) hx hb dX13_holders_47 (by decide) ?_
                  refine lv_iadd hx hb dX13_holders_48 ?_
                  refine x_ci (y := 0) (by decide) ?_
                  refine lv_istore_n (lv' := [(2, .int 0), (3, .int 3), (0, .ref z0), (1, .int a)]) hx hb dX13_holders_49 rfl hl (by decide) rfl (fun ls hl => ?_)
                  refine lv_iinc (v := 4) (lv' := [(3, .int 4), (2, .int 0), (0, .ref z0), (1, .int a)]) hx hb dX13_holders_50 hl (k := 1) rfl (by decide) (by decide) rfl (fun ls hl => ?_)
                  refine lv_goto (tgt := 9) hx hb dX13_holders_53 (by decide) ?_
                  refine lv_iload_n hx hb dX13_holders_9 rfl (lv_at hl 0 rfl) ?_
                  refine lv_bipush (v := 8) hx hb dX13_holders_10 (by decide) ?_
                  refine lv_icmp_ge (tgt := 56) hx hb dX13_holders_12 (by decide) (fun c_9 => ?_) (fun c_9 => ?_)
                  · exact absurd c_9 (by decide)
                  · refine lv_iload_n hx hb dX13_holders_15 rfl (lv_at hl 1 rfl) ?_
                    refine lv_aload_n hx hb dX13_holders_16 rfl (lv_at hl 2 rfl) ?_
                    refine va_get (D := D) (ci := 13) (v := .ref (g 1)) (C := RX13) (T := TX13) (N := 68) hx hb hts iG13 hown hK.1 hP 0 rfl rfl 4 (by decide) (hts _ gw1126) (fun _ h9 => h9) rfl dX13_holders_17 ?_
                    refine lv_iload_n hx hb dX13_holders_20 rfl (lv_at hl 0 rfl) ?_
                    refine va_zald hx hb hK.1 hP 1 3 rfl rfl (show vp_in 4 8 by unfold vp_in; decide) dX13_holders_21 ?_
                    refine lv_if_eq (tgt := 47) hx hb dX13_holders_22 (by decide) (fun c_10 => ?_) (fun c_10 => ?_)
                    · refine lv_iconst (v := 0) hx hb dX13_holders_47 (by decide) ?_
                      refine lv_iadd hx hb dX13_holders_48 ?_
                      refine x_ci (y := 0) (by decide) ?_
                      refine lv_istore_n (lv' := [(2, .int 0), (3, .int 4), (0, .ref z0), (1, .int a)]) hx hb dX13_holders_49 rfl hl (by decide) rfl (fun ls hl => ?_)
                      refine lv_iinc (v := 5) (lv' := [(3, .int 5), (2, .int 0), (0, .ref z0), (1, .int a)]) hx hb dX13_holders_50 hl (k := 1) rfl (by decide) (by decide) rfl (fun ls hl => ?_)
                      refine lv_goto (tgt := 9) hx hb dX13_holders_53 (by decide) ?_
                      refine lv_iload_n hx hb dX13_holders_9 rfl (lv_at hl 0 rfl) ?_
                      refine lv_bipush (v := 8) hx hb dX13_holders_10 (by decide) ?_
                      refine lv_icmp_ge (tgt := 56) hx hb dX13_holders_12 (by decide) (fun c_11 => ?_) (fun c_11 => ?_)
                      · exact absurd c_11 (by decide)
                      · refine lv_iload_n hx hb dX13_holders_15 rfl (lv_at hl 1 rfl) ?_
                        refine lv_aload_n hx hb dX13_holders_16 rfl (lv_at hl 2 rfl) ?_
                        refine va_get (D := D) (ci := 13) (v := .ref (g 1)) (C := RX13) (T := TX13) (N := 68) hx hb hts iG13 hown hK.1 hP 0 rfl rfl 4 (by decide) (hts _ gw1126) (fun _ h9 => h9) rfl dX13_holders_17 ?_
                        refine lv_iload_n hx hb dX13_holders_20 rfl (lv_at hl 0 rfl) ?_
                        refine va_zald hx hb hK.1 hP 1 3 rfl rfl (show vp_in 5 8 by unfold vp_in; decide) dX13_holders_21 ?_
                        refine lv_if_eq (tgt := 47) hx hb dX13_holders_22 (by decide) (fun c_12 => ?_) (fun c_12 => ?_)
                        · refine lv_iconst (v := 0) hx hb dX13_holders_47 (by decide) ?_
                          refine lv_iadd hx hb dX13_holders_48 ?_
                          refine x_ci (y := 0) (by decide) ?_
                          refine lv_istore_n (lv' := [(2, .int 0), (3, .int 5), (0, .ref z0), (1, .int a)]) hx hb dX13_holders_49 rfl hl (by decide) rfl (fun ls hl => ?_)
                          refine lv_iinc (v := 6) (lv' := [(3, .int 6), (2, .int 0), (0, .ref z0), (1, .int a)]) hx hb dX13_holders_50 hl (k := 1) rfl (by decide) (by decide) rfl (fun ls hl => ?_)
                          refine lv_goto (tgt := 9) hx hb dX13_holders_53 (by decide) ?_
                          refine lv_iload_n hx hb dX13_holders_9 rfl (lv_at hl 0 rfl) ?_
                          refine lv_bipush (v := 8) hx hb dX13_holders_10 (by decide) ?_
                          refine lv_icmp_ge (tgt := 56) hx hb dX13_holders_12 (by decide) (fun c_13 => ?_) (fun c_13 => ?_)
                          · exact absurd c_13 (by decide)
                          · refine lv_iload_n hx hb dX13_holders_15 rfl (lv_at hl 1 rfl) ?_
                            refine lv_aload_n hx hb dX13_holders_16 rfl (lv_at hl 2 rfl) ?_
                            refine va_get (D := D) (ci := 13) (v := .ref (g 1)) (C := RX13) (T := TX13) (N := 68) hx hb hts iG13 hown hK.1 hP 0 rfl rfl 4 (by decide) (hts _ gw1126) (fun _ h9 => h9) rfl dX13_holders_17 ?_
                            refine lv_iload_n hx hb dX13_holders_20 rfl (lv_at hl 0 rfl) ?_
                            refine va_zald hx hb hK.1 hP 1 3 rfl rfl (show vp_in 6 8 by unfold vp_in; decide) dX13_holders_21 ?_
                            refine lv_if_eq (tgt := 47) hx hb dX13_holders_22 (by decide) (fun c_14 => ?_) (fun c_14 => ?_)
                            · refine lv_iconst (v := 0) hx hb dX13_holders_47 (by decide) ?_
                              refine lv_iadd hx hb dX13_holders_48 ?_
                              refine x_ci (y := 0) (by decide) ?_
                              refine lv_istore_n (lv' := [(2, .int 0), (3, .int 6), (0, .ref z0), (1, .int a)]) hx hb dX13_holders_49 rfl hl (by decide) rfl (fun ls hl => ?_)
                              refine lv_iinc (v := 7) (lv' := [(3, .int 7), (2, .int 0), (0, .ref z0), (1, .int a)]) hx hb dX13_holders_50 hl (k := 1) rfl (by decide) (by decide) rfl (fun ls hl => ?_)
                              refine lv_goto (tgt := 9) hx hb dX13_holders_53 (by decide) ?_
                              refine lv_iload_n hx hb dX13_holders_9 rfl (lv_at hl 0 rfl) ?_
                              refine lv_bipush (v := 8) hx hb dX13_holders_10 (by decide) ?_
                              refine lv_icmp_ge (tgt := 56) hx hb dX13_holders_12 (by decide) (fun c_15 => ?_) (fun c_15 => ?_)
                              · exact absurd c_15 (by decide)
                              · refine lv_iload_n hx hb dX13_holders_15 rfl (lv_at hl 1 rfl) ?_
                                refine lv_aload_n hx hb dX13_holders_16 rfl (lv_at hl 2 rfl) ?_
                                refine va_get (D := D) (ci := 13) (v := .ref (g 1)) (C := RX13) (T := TX13) (N := 68) hx hb hts iG13 hown hK.1 hP 0 rfl rfl 4 (by decide) (hts _ gw1126) (fun _ h9 => h9) rfl dX13_holders_17 ?_
                                refine lv_iload_n hx hb dX13_holders_20 rfl (lv_at hl 0 rfl) ?_
                                refine va_zald hx hb hK.1 hP 1 3 rfl rfl (show vp_in 7 8 by unfold vp_in; decide) dX13_holders_21 ?_
                                refine lv_if_eq (tgt := 47) hx hb dX13_holders_22 (by decide) (fun c_16 => ?_) (fun c_16 => ?_)
                                · refine lv_iconst (v := 0) hx hb dX13_holders_47 (by decide) ?_
                                  refine lv_iadd hx hb dX13_holders_48 ?_
                                  refine x_ci (y := 0) (by decide) ?_
                                  refine lv_istore_n (lv' := [(2, .int 0), (3, .int 7), (0, .ref z0), (1, .int a)]) hx hb dX13_holders_49 rfl hl (by decide) rfl (fun ls hl => ?_)
                                  refine lv_iinc (v := 8) (lv' := [(3, .int 8), (2, .int 0), (0, .ref z0), (1, .int a)]) hx hb dX13_holders_50 hl (k := 1) rfl (by decide) (by decide) rfl (fun ls hl => ?_)
                                  refine lv_goto (tgt := 9) hx hb dX13_holders_53 (by decide) ?_
                                  refine lv_iload_n hx hb dX13_holders_9 rfl (lv_at hl 0 rfl) ?_
                                  refine lv_bipush (v := 8) hx hb dX13_holders_10 (by decide) ?_
                                  refine lv_icmp_ge (tgt := 56) hx hb dX13_holders_12 (by decide) (fun c_17 => ?_) (fun c_17 => ?_)
                                  · refine lv_iload_n hx hb dX13_holders_56 rfl (lv_at hl 1 rfl) ?_
                                    have hP9 := hP.sub (ws' := []) [] rfl
                                    have hD9 := hD.sub (ws' := []) [] (by decide) rfl
                                    refine W.widen (k := 0) (n := 0) (Nat.le_of_ble_eq_true rfl) (Nat.le_of_ble_eq_true rfl) ?_
                                    exact W.iret (v := 0) hx hb hr (fun t ht hW => ⟨⟨0, (), rfl, rfl, by rw [ht]; exact hP9, hD9⟩, hS.F ht⟩) hS.2.2 dX13_holders_57
                                  · exact absurd c_17 (by decide)
                                · exact absurd c_16 (by decide)
                            · exact absurd c_14 (by decide)
                        · exact absurd c_12 (by decide)
                    · exact absurd c_10 (by decide)
                · exact absurd c_8 (by decide)
            · exact absurd c_6 (by decide)
        · exact absurd c_4 (by decide)
    · exact absurd c_2 (by decide)
