theorem gw1172 : (Cond.fieldLink RX13 223 "CableNamesModel" "lastSize" "I") ∈ xG := xin5 212 (by decide +kernel) (by decide +kernel)
theorem gw1122 : (Cond.fieldLink RX13 226 "CableNamesModel" "time" "J") ∈ xG := xin5 162 (by decide +kernel) (by decide +kernel)
theorem gw1580 : (Cond.code yX13_fails cX13_fails 2 (Option.some .int)) ∈ xG := xin7 140 (by decide +kernel) (by decide +kernel)
theorem gw1579 : (Cond.instanceMethod yX13_fails) ∈ xG := xin7 139 (by decide +kernel) (by decide +kernel)
theorem gw1577 : (Cond.methodLink RX13 402 yX13_fails) ∈ xG := xin7 137 (by decide +kernel) (by decide +kernel)
theorem gs82 : (Cond.selects RX13 yX13_fails yX13_fails) ∈ xG := xinS 82 (by decide +kernel) (by decide +kernel)
theorem xcount_neg {a : Int32} (h : ¬ a = 0) (h2 : a ≤ 0) : (-1 : Int32) = xcount a := by
  have e0 : (0 : Int32).toInt = 0 := rfl
  have e10 : (10 : Int32).toInt = 10 := rfl
  rw [← Int32.toInt_inj] at h
  rw [Int32.le_iff_toInt_le] at h2
  unfold xcount
  rw [if_neg, if_pos]
  · rw [Int32.lt_iff_toInt_lt]; omega
  · rw [← Int32.toInt_inj]; omega
theorem xcount_big {a : Int32} (h : 11 ≤ a) : (-1 : Int32) = xcount a := by
  have e0 : (0 : Int32).toInt = 0 := rfl
  have e10 : (10 : Int32).toInt = 10 := rfl
  have e11 : (11 : Int32).toInt = 11 := rfl
  rw [Int32.le_iff_toInt_le] at h
  unfold xcount
  rw [if_neg, if_neg, if_neg]
  · rw [Int32.lt_iff_toInt_lt]; omega
  · rw [Int32.lt_iff_toInt_lt]; omega
  · rw [← Int32.toInt_inj]; omega
theorem xcount_in {a : Int32} (h1 : ¬ a ≤ 0) (h2 : ¬ 11 ≤ a) : xcnt (Int32.toNatClampNeg a) = xcount a := by
  have h0 : ¬ a < 0 := fun q => h1 (Int32.le_of_lt q)
  obtain ⟨j, hj, rfl⟩ := nI_of h0
  have h3 : j < 11 := by
    rcases Nat.lt_or_ge j 11 with q | q
    · exact q
    · exact absurd (show (11 : Int32) ≤ nI j from nI_le q hj) h2
  have h4 : 0 < j := by
    rcases Nat.eq_zero_or_pos j with q | q
    · subst q; exact absurd (show nI 0 ≤ 0 by decide) h1
    · exact q
  rcases (show j = 1 ∨ j = 2 ∨ j = 3 ∨ j = 4 ∨ j = 5 ∨ j = 6 ∨ j = 7 ∨ j = 8 ∨ j = 9 ∨ j = 10 by omega) with rfl | rfl | rfl | rfl | rfl | rfl | rfl | rfl | rfl | rfl <;> decide
set_option maxHeartbeats 4000000 in
set_option maxRecDepth 100000 in
theorem m_sent (l : Launch) (D : va_G) (cy : Nat → ClassId) (z0 : Nat) (g : Nat → Nat) (a : Int32) : xMi l D cy yX13_sent cX13_sent 2 (some .int) ({ frames := 0, cells := 0, slots := 0, locals := 0 }) [.ref z0, .int a] [(z0, .inr (13, xM g 0 0 0))] (S := Unit) (fun r _ => r = -1) (fun _ => []) := by
  intro sz
  refine Met.ofW (cc := cX13_sent) (maxL := 2) (ret := (some .int)) (by decide) rfl ?_
  intro p e s m args below meth c s₁ B hml hv
  obtain ⟨rfl, hsz, hP, hK, hD0⟩ := hv
  have hx := B.exec
  have hb := B.bytes
  have hr := B.returns
  have hts0 := atoms_spec (ws := xw yX13_sent cX13_sent 2 (some .int)) B.pre
  have hts : ∀ w ∈ xG, w.before _ s = true := fun w h => hts0 w (List.mem_cons_of_mem _ h)
  have hown : s.vm.findClass RX13 = some m.cls := findClass_of_methodNamed B.named
  have hlocks := B.notSynchronized
  subst hsz
  have hD := hD0.self (sz := s.heap.size)
  generalize hAe : va_A [(z0, .inr (13, xM g 0 0 0))] s.heap.size = A at hD ⊢
  have hA : ∀ q : Nat, s.heap.size ≤ q → A q := fun q h => by rw [← hAe]; exact Or.inr h
  have hS : va_S A s.heap s.heap [] := va_S.rf
  have hl := lv_entry ([.ref z0, .int a]) (n := 2) (Nat.le_of_ble_eq_true rfl)
  rw [lg_entry_eq]
  generalize (lg_sl ([.ref z0, .int a]) ++ List.replicate (2 - (lg_sl ([.ref z0, .int a])).length) Slot.unset).toArray = ls at hl ⊢
  have hl : lv_has ls 2 [(0, .ref z0), (1, .int a)] := hl
  refine lv_aload_n hx hb dX13_sent_0 rfl (lv_at hl 0 rfl) ?_
  refine lv_iconst (v := 0) hx hb dX13_sent_1 (by decide) ?_
  refine va_put (D := D) (ci := 13) (v := .int 0) (ty := .int) (C := RX13) (T := TX13) (N := 68) hx hb hts iG13 tyX13 tyX13_ok nmX13 hown hK.1 hP hD hS 0 rfl rfl 3 (by decide) (hts _ gw1125) (fun _ h9 => h9) rfl (by decide +kernel) rfl rfl (Nat.le_of_ble_eq_true rfl) dX13_sent_2 (fun H locs hP hD hS => ?_)
  have hP : va_P D vwCl [(z0, .inr (13, xM g 0 0 0))] H := hP
  have hD : va_D A [(z0, .inr (13, xM g 0 0 0))] := hD
  refine lv_iload_n hx hb dX13_sent_5 rfl (lv_at hl 1 rfl) ?_
  refine lv_if_lt (tgt := 26) hx hb dX13_sent_6 (by decide) (fun c_1 => ?_) (fun c_1 => ?_)
  · refine lv_iconst (v := (-1)) hx hb dX13_sent_26 (by decide) ?_
    have hP9 := hP.sub (ws' := []) [] rfl
    have hD9 := hD.sub (ws' := []) [] (by decide) rfl
    refine W.widen (k := 0) (n := 0) (Nat.le_of_ble_eq_true rfl) (Nat.le_of_ble_eq_true rfl) ?_
    exact W.iret (v := (-1)) hx hb hr (fun t ht hW => ⟨⟨(-1), (), rfl, rfl, by rw [ht]; exact hP9, hD9⟩, hS.F ht⟩) hS.2.2 dX13_sent_27
  · refine lv_iload_n hx hb dX13_sent_9 rfl (lv_at hl 1 rfl) ?_
    refine lv_aload_n hx hb dX13_sent_10 rfl (lv_at hl 0 rfl) ?_
    refine va_get (D := D) (ci := 13) (v := .int 0) (C := RX13) (T := TX13) (N := 68) hx hb hts iG13 hown hK.1 hP 0 rfl rfl 50 (by decide) (hts _ gw1172) (fun _ h9 => h9) rfl dX13_sent_11 ?_
    refine lv_icmp_ge (tgt := 26) hx hb dX13_sent_14 (by decide) (fun c_2 => ?_) (fun c_2 => ?_)
    · refine lv_iconst (v := (-1)) hx hb dX13_sent_26 (by decide) ?_
      have hP9 := hP.sub (ws' := []) [] rfl
      have hD9 := hD.sub (ws' := []) [] (by decide) rfl
      refine W.widen (k := 0) (n := 0) (Nat.le_of_ble_eq_true rfl) (Nat.le_of_ble_eq_true rfl) ?_
      exact W.iret (v := (-1)) hx hb hr (fun t ht hW => ⟨⟨(-1), (), rfl, rfl, by rw [ht]; exact hP9, hD9⟩, hS.F ht⟩) hS.2.2 dX13_sent_27
    · exact absurd (Int32.not_lt.mp c_1) c_2
set_option maxHeartbeats 4000000 in
set_option maxRecDepth 100000 in
theorem m_end (l : Launch) (D : va_G) (cy : Nat → ClassId) (z0 : Nat) (g : Nat → Nat) (a : Int32) : xMi l D cy yX13_end cX13_end 2 (some .int) ({ frames := 0, cells := 0, slots := 0, locals := 0 }) [.ref z0, .int a] [(z0, .inr (13, xM g 0 0 0))] (S := Unit) (fun r _ => r = xend a) (fun _ => []) := by
  intro sz
  refine Met.ofW (cc := cX13_end) (maxL := 2) (ret := (some .int)) (by decide) rfl ?_
  intro p e s m args below meth c s₁ B hml hv
  obtain ⟨rfl, hsz, hP, hK, hD0⟩ := hv
  have hx := B.exec
  have hb := B.bytes
  have hr := B.returns
  have hts0 := atoms_spec (ws := xw yX13_end cX13_end 2 (some .int)) B.pre
  have hts : ∀ w ∈ xG, w.before _ s = true := fun w h => hts0 w (List.mem_cons_of_mem _ h)
  have hown : s.vm.findClass RX13 = some m.cls := findClass_of_methodNamed B.named
  have hlocks := B.notSynchronized
  subst hsz
  have hD := hD0.self (sz := s.heap.size)
  generalize hAe : va_A [(z0, .inr (13, xM g 0 0 0))] s.heap.size = A at hD ⊢
  have hA : ∀ q : Nat, s.heap.size ≤ q → A q := fun q h => by rw [← hAe]; exact Or.inr h
  have hS : va_S A s.heap s.heap [] := va_S.rf
  have hl := lv_entry ([.ref z0, .int a]) (n := 2) (Nat.le_of_ble_eq_true rfl)
  rw [lg_entry_eq]
  generalize (lg_sl ([.ref z0, .int a]) ++ List.replicate (2 - (lg_sl ([.ref z0, .int a])).length) Slot.unset).toArray = ls at hl ⊢
  have hl : lv_has ls 2 [(0, .ref z0), (1, .int a)] := hl
  refine lv_aload_n hx hb dX13_end_0 rfl (lv_at hl 0 rfl) ?_
  refine lv_iconst (v := 0) hx hb dX13_end_1 (by decide) ?_
  refine va_put (D := D) (ci := 13) (v := .int 0) (ty := .int) (C := RX13) (T := TX13) (N := 68) hx hb hts iG13 tyX13 tyX13_ok nmX13 hown hK.1 hP hD hS 0 rfl rfl 3 (by decide) (hts _ gw1125) (fun _ h9 => h9) rfl (by decide +kernel) rfl rfl (Nat.le_of_ble_eq_true rfl) dX13_end_2 (fun H locs hP hD hS => ?_)
  have hP : va_P D vwCl [(z0, .inr (13, xM g 0 0 0))] H := hP
  have hD : va_D A [(z0, .inr (13, xM g 0 0 0))] := hD
  refine lv_iload_n hx hb dX13_end_5 rfl (lv_at hl 1 rfl) ?_
  refine lv_if_lt (tgt := 17) hx hb dX13_end_6 (by decide) (fun c_1 => ?_) (fun c_1 => ?_)
  · refine lv_iconst (v := (-1)) hx hb dX13_end_17 (by decide) ?_
    have hP9 := hP.sub (ws' := []) [] rfl
    have hD9 := hD.sub (ws' := []) [] (by decide) rfl
    refine W.widen (k := 0) (n := 0) (Nat.le_of_ble_eq_true rfl) (Nat.le_of_ble_eq_true rfl) ?_
    exact W.iret (v := (-1)) hx hb hr (fun t ht hW => ⟨⟨(-1), (), rfl, (if_neg (xne_lt c_1)).symm, by rw [ht]; exact hP9, hD9⟩, hS.F ht⟩) hS.2.2 dX13_end_18
  · refine lv_iload_n hx hb dX13_end_9 rfl (lv_at hl 1 rfl) ?_
    refine lv_aload_n hx hb dX13_end_10 rfl (lv_at hl 0 rfl) ?_
    refine va_get (D := D) (ci := 13) (v := .int 0) (C := RX13) (T := TX13) (N := 68) hx hb hts iG13 hown hK.1 hP 0 rfl rfl 2 (by decide) (hts _ gw1124) (fun _ h9 => h9) rfl dX13_end_11 ?_
    refine lv_icmp_le (tgt := 19) hx hb dX13_end_14 (by decide) (fun c_2 => ?_) (fun c_2 => ?_)
    · refine lv_aload_n hx hb dX13_end_19 rfl (lv_at hl 0 rfl) ?_
      refine lv_iload_n hx hb dX13_end_20 rfl (lv_at hl 1 rfl) ?_
      refine va_put (D := D) (ci := 13) (v := .int a) (ty := .int) (C := RX13) (T := TX13) (N := 68) hx hb hts iG13 tyX13 tyX13_ok nmX13 hown hK.1 hP hD hS 0 rfl rfl 2 (by decide) (hts _ gw1124) (fun _ h9 => h9) rfl (by decide +kernel) rfl rfl (Nat.le_of_ble_eq_true rfl) dX13_end_21 (fun H locs hP hD hS => ?_)
      have hP : va_P D vwCl [(z0, .inr (13, xM g 0 a 0))] H := hP
      have hD : va_D A [(z0, .inr (13, xM g 0 a 0))] := hD
      refine lv_iload_n hx hb dX13_end_24 rfl (lv_at hl 1 rfl) ?_
      have hP9 := hP.sub (ws' := []) [] rfl
      have hD9 := hD.sub (ws' := []) [] (by decide) rfl
      refine W.widen (k := 0) (n := 0) (Nat.le_of_ble_eq_true rfl) (Nat.le_of_ble_eq_true rfl) ?_
      exact W.iret (v := a) hx hb hr (fun t ht hW => ⟨⟨a, (), rfl, (show _ = xend _ by rw [xz c_1 (Int32.not_lt.mpr c_2)]; rfl), by rw [ht]; exact hP9, hD9⟩, hS.F ht⟩) hS.2.2 dX13_end_25
    · refine lv_iconst (v := (-1)) hx hb dX13_end_17 (by decide) ?_
      have hP9 := hP.sub (ws' := []) [] rfl
      have hD9 := hD.sub (ws' := []) [] (by decide) rfl
      refine W.widen (k := 0) (n := 0) (Nat.le_of_ble_eq_true rfl) (Nat.le_of_ble_eq_true rfl) ?_
      exact W.iret (v := (-1)) hx hb hr (fun t ht hW => ⟨⟨(-1), (), rfl, (if_neg (xne_gt (Int32.not_le.mp c_2))).symm, by rw [ht]; exact hP9, hD9⟩, hS.F ht⟩) hS.2.2 dX13_end_18
set_option maxHeartbeats 4000000 in
set_option maxRecDepth 100000 in
theorem m_count (l : Launch) (D : va_G) (cy : Nat → ClassId) (z0 : Nat) (g : Nat → Nat) (a : Int32) : xMi l D cy yX13_count cX13_count 2 (some .int) ({ frames := 0, cells := 0, slots := 0, locals := 0 }) [.ref z0, .int a] [(z0, .inr (13, xM g 0 0 0)), (g 43, .inl (cy 1, 11, .inl xcnt))] (S := Unit) (fun r _ => r = xcount a) (fun _ => []) := by
  intro sz
  refine Met.ofW (cc := cX13_count) (maxL := 2) (ret := (some .int)) (by decide) rfl ?_
  intro p e s m args below meth c s₁ B hml hv
  obtain ⟨rfl, hsz, hP, hK, hD0⟩ := hv
  have hx := B.exec
  have hb := B.bytes
  have hr := B.returns
  have hts0 := atoms_spec (ws := xw yX13_count cX13_count 2 (some .int)) B.pre
  have hts : ∀ w ∈ xG, w.before _ s = true := fun w h => hts0 w (List.mem_cons_of_mem _ h)
  have hown : s.vm.findClass RX13 = some m.cls := findClass_of_methodNamed B.named
  have hlocks := B.notSynchronized
  subst hsz
  have hD := hD0.self (sz := s.heap.size)
  generalize hAe : va_A [(z0, .inr (13, xM g 0 0 0)), (g 43, .inl (cy 1, 11, .inl xcnt))] s.heap.size = A at hD ⊢
  have hA : ∀ q : Nat, s.heap.size ≤ q → A q := fun q h => by rw [← hAe]; exact Or.inr h
  have hS : va_S A s.heap s.heap [] := va_S.rf
  have hl := lv_entry ([.ref z0, .int a]) (n := 2) (Nat.le_of_ble_eq_true rfl)
  rw [lg_entry_eq]
  generalize (lg_sl ([.ref z0, .int a]) ++ List.replicate (2 - (lg_sl ([.ref z0, .int a])).length) Slot.unset).toArray = ls at hl ⊢
  have hl : lv_has ls 2 [(0, .ref z0), (1, .int a)] := hl
  refine lv_aload_n hx hb dX13_count_0 rfl (lv_at hl 0 rfl) ?_
  refine lv_iconst (v := 0) hx hb dX13_count_1 (by decide) ?_
  refine va_put (D := D) (ci := 13) (v := .int 0) (ty := .int) (C := RX13) (T := TX13) (N := 68) hx hb hts iG13 tyX13 tyX13_ok nmX13 hown hK.1 hP hD hS 0 rfl rfl 3 (by decide) (hts _ gw1125) (fun _ h9 => h9) rfl (by decide +kernel) rfl rfl (Nat.le_of_ble_eq_true rfl) dX13_count_2 (fun H locs hP hD hS => ?_)
  have hP : va_P D vwCl [(z0, .inr (13, xM g 0 0 0)), (g 43, .inl (cy 1, 11, .inl xcnt))] H := hP
  have hD : va_D A [(z0, .inr (13, xM g 0 0 0)), (g 43, .inl (cy 1, 11, .inl xcnt))] := hD
  refine lv_iload_n hx hb dX13_count_5 rfl (lv_at hl 1 rfl) ?_
  refine lv_if_ne (tgt := 17) hx hb dX13_count_6 (by decide) (fun c_1 => ?_) (fun c_1 => ?_)
  · refine lv_iload_n hx hb dX13_count_17 rfl (lv_at hl 1 rfl) ?_
    refine lv_if_le (tgt := 36) hx hb dX13_count_18 (by decide) (fun c_2 => ?_) (fun c_2 => ?_)
    · refine lv_iconst (v := (-1)) hx hb dX13_count_36 (by decide) ?_
      have hP9 := hP.sub (ws' := []) [] rfl
      have hD9 := hD.sub (ws' := []) [] (by decide) rfl
      refine W.widen (k := 0) (n := 0) (Nat.le_of_ble_eq_true rfl) (Nat.le_of_ble_eq_true rfl) ?_
      exact W.iret (v := (-1)) hx hb hr (fun t ht hW => ⟨⟨(-1), (), rfl, (xcount_neg c_1 c_2), by rw [ht]; exact hP9, hD9⟩, hS.F ht⟩) hS.2.2 dX13_count_37
    · refine lv_iload_n hx hb dX13_count_21 rfl (lv_at hl 1 rfl) ?_
      refine lv_bipush (v := 11) hx hb dX13_count_22 (by decide) ?_
      refine lv_icmp_ge (tgt := 36) hx hb dX13_count_24 (by decide) (fun c_3 => ?_) (fun c_3 => ?_)
      · refine lv_iconst (v := (-1)) hx hb dX13_count_36 (by decide) ?_
        have hP9 := hP.sub (ws' := []) [] rfl
        have hD9 := hD.sub (ws' := []) [] (by decide) rfl
        refine W.widen (k := 0) (n := 0) (Nat.le_of_ble_eq_true rfl) (Nat.le_of_ble_eq_true rfl) ?_
        exact W.iret (v := (-1)) hx hb hr (fun t ht hW => ⟨⟨(-1), (), rfl, (xcount_big c_3), by rw [ht]; exact hP9, hD9⟩, hS.F ht⟩) hS.2.2 dX13_count_37
      · refine lv_aload_n hx hb dX13_count_27 rfl (lv_at hl 0 rfl) ?_
        refine va_get (D := D) (ci := 13) (v := .ref (g 43)) (C := RX13) (T := TX13) (N := 68) hx hb hts iG13 hown hK.1 hP 0 rfl rfl 48 (by decide) (hts _ gw1170) (fun _ h9 => h9) rfl dX13_count_28 ?_
        refine lv_iload_n hx hb dX13_count_31 rfl (lv_at hl 1 rfl) ?_
        refine va_iald hx hb hK.1 hP 1 1 rfl rfl (xin8 (fun q => c_2 (Int32.le_of_lt q)) c_3) dX13_count_32 ?_
        refine lv_goto (tgt := 37) hx hb dX13_count_33 (by decide) ?_
        have hP9 := hP.sub (ws' := []) [] rfl
        have hD9 := hD.sub (ws' := []) [] (by decide) rfl
        refine W.widen (k := 0) (n := 0) (Nat.le_of_ble_eq_true rfl) (Nat.le_of_ble_eq_true rfl) ?_
        exact W.iret (v := xcnt (Int32.toNatClampNeg a)) hx hb hr (fun t ht hW => ⟨⟨xcnt (Int32.toNatClampNeg a), (), rfl, (xcount_in c_2 c_3), by rw [ht]; exact hP9, hD9⟩, hS.F ht⟩) hS.2.2 dX13_count_37
  · refine lv_aload_n hx hb dX13_count_9 rfl (lv_at hl 0 rfl) ?_
    refine va_get (D := D) (ci := 13) (v := .long 0) (C := RX13) (T := TX13) (N := 68) hx hb hts iG13 hown hK.1 hP 0 rfl rfl 0 (by decide) (hts _ gw1122) (fun _ h9 => h9) rfl dX13_count_10 ?_
    refine lv_l2i (v := 0) hx hb dX13_count_13 (by decide) ?_
    refine lv_goto (tgt := 37) hx hb dX13_count_14 (by decide) ?_
    have hP9 := hP.sub (ws' := []) [] rfl
    have hD9 := hD.sub (ws' := []) [] (by decide) rfl
    refine W.widen (k := 0) (n := 0) (Nat.le_of_ble_eq_true rfl) (Nat.le_of_ble_eq_true rfl) ?_
    exact W.iret (v := 0) hx hb hr (fun t ht hW => ⟨⟨0, (), rfl, (show _ = xcount a by rw [c_1]; rfl), by rw [ht]; exact hP9, hD9⟩, hS.F ht⟩) hS.2.2 dX13_count_37
set_option maxHeartbeats 4000000 in
set_option maxRecDepth 100000 in
theorem m_fails (l : Launch) (D : va_G) (cy : Nat → ClassId) (z0 : Nat) (g : Nat → Nat) (k : Int32) : xMi l D cy yX13_fails cX13_fails 2 (some .int) ({ frames := 0, cells := 0, slots := 0, locals := 0 }) [.ref z0, .int k] [(z0, .inr (13, xM g 0 0 0))] (S := Unit) (fun r _ => r = 0) (fun _ => [(z0, .inr (13, xM g 0 0 k))]) := by
  intro sz
  refine Met.ofW (cc := cX13_fails) (maxL := 2) (ret := (some .int)) (by decide) rfl ?_
  intro p e s m args below meth c s₁ B hml hv
  obtain ⟨rfl, hsz, hP, hK, hD0⟩ := hv
  have hx := B.exec
  have hb := B.bytes
  have hr := B.returns
  have hts0 := atoms_spec (ws := xw yX13_fails cX13_fails 2 (some .int)) B.pre
  have hts : ∀ w ∈ xG, w.before _ s = true := fun w h => hts0 w (List.mem_cons_of_mem _ h)
  have hown : s.vm.findClass RX13 = some m.cls := findClass_of_methodNamed B.named
  have hlocks := B.notSynchronized
  subst hsz
  have hD := hD0.self (sz := s.heap.size)
  generalize hAe : va_A [(z0, .inr (13, xM g 0 0 0))] s.heap.size = A at hD ⊢
  have hA : ∀ q : Nat, s.heap.size ≤ q → A q := fun q h => by rw [← hAe]; exact Or.inr h
  have hS : va_S A s.heap s.heap [] := va_S.rf
  have hl := lv_entry ([.ref z0, .int k]) (n := 2) (Nat.le_of_ble_eq_true rfl)
  rw [lg_entry_eq]
  generalize (lg_sl ([.ref z0, .int k]) ++ List.replicate (2 - (lg_sl ([.ref z0, .int k])).length) Slot.unset).toArray = ls at hl ⊢
  have hl : lv_has ls 2 [(0, .ref z0), (1, .int k)] := hl
  refine lv_aload_n hx hb dX13_fails_0 rfl (lv_at hl 0 rfl) ?_
  refine lv_iload_n hx hb dX13_fails_1 rfl (lv_at hl 1 rfl) ?_
  refine va_put (D := D) (ci := 13) (v := .int k) (ty := .int) (C := RX13) (T := TX13) (N := 68) hx hb hts iG13 tyX13 tyX13_ok nmX13 hown hK.1 hP hD hS 0 rfl rfl 3 (by decide) (hts _ gw1125) (fun _ h9 => h9) rfl (by decide +kernel) rfl rfl (Nat.le_of_ble_eq_true rfl) dX13_fails_2 (fun H locs hP hD hS => ?_)
  have hP : va_P D vwCl [(z0, .inr (13, xM g 0 0 k))] H := hP
  have hD : va_D A [(z0, .inr (13, xM g 0 0 k))] := hD
  refine lv_iconst (v := 0) hx hb dX13_fails_5 (by decide) ?_
  have hP9 := hP.sub (ws' := [(z0, .inr (13, xM g 0 0 k))]) [0] rfl
  have hD9 := hD.sub (ws' := [(z0, .inr (13, xM g 0 0 k))]) [0] (by decide) rfl
  refine W.widen (k := 0) (n := 0) (Nat.le_of_ble_eq_true rfl) (Nat.le_of_ble_eq_true rfl) ?_
  exact W.iret (v := 0) hx hb hr (fun t ht hW => ⟨⟨0, (), rfl, rfl, by rw [ht]; exact hP9, hD9⟩, hS.F ht⟩) hS.2.2 dX13_fails_6
set_option maxHeartbeats 4000000 in
set_option maxRecDepth 100000 in
theorem m_thrown (l : Launch) (D : va_G) (cy : Nat → ClassId) (z0 : Nat) (g : Nat → Nat) (tv : Int32) : xMi l D cy yX13_thrown cX13_thrown 1 (some .int) ({ frames := 0, cells := 0, slots := 0, locals := 0 }) [.ref z0] [(z0, .inr (13, xM g 0 0 tv))] (S := Unit) (fun r _ => r = tv) (fun _ => []) := by
  intro sz
  refine Met.ofW (cc := cX13_thrown) (maxL := 1) (ret := (some .int)) (by decide) rfl ?_
  intro p e s m args below meth c s₁ B hml hv
  obtain ⟨rfl, hsz, hP, hK, hD0⟩ := hv
  have hx := B.exec
  have hb := B.bytes
  have hr := B.returns
  have hts0 := atoms_spec (ws := xw yX13_thrown cX13_thrown 1 (some .int)) B.pre
  have hts : ∀ w ∈ xG, w.before _ s = true := fun w h => hts0 w (List.mem_cons_of_mem _ h)
  have hown : s.vm.findClass RX13 = some m.cls := findClass_of_methodNamed B.named
  have hlocks := B.notSynchronized
  subst hsz
  have hD := hD0.self (sz := s.heap.size)
  generalize hAe : va_A [(z0, .inr (13, xM g 0 0 tv))] s.heap.size = A at hD ⊢
  have hA : ∀ q : Nat, s.heap.size ≤ q → A q := fun q h => by rw [← hAe]; exact Or.inr h
  have hS : va_S A s.heap s.heap [] := va_S.rf
  have hl := lv_entry ([.ref z0]) (n := 1) (Nat.le_of_ble_eq_true rfl)
  rw [lg_entry_eq]
  generalize (lg_sl ([.ref z0]) ++ List.replicate (1 - (lg_sl ([.ref z0])).length) Slot.unset).toArray = ls at hl ⊢
  have hl : lv_has ls 1 [(0, .ref z0)] := hl
  refine lv_aload_n hx hb dX13_thrown_0 rfl (lv_at hl 0 rfl) ?_
  refine va_get (D := D) (ci := 13) (v := .int tv) (C := RX13) (T := TX13) (N := 68) hx hb hts iG13 hown hK.1 hP 0 rfl rfl 3 (by decide) (hts _ gw1125) (fun _ h9 => h9) rfl dX13_thrown_1 ?_
  have hP9 := hP.sub (ws' := []) [] rfl
  have hD9 := hD.sub (ws' := []) [] (by decide) rfl
  refine W.widen (k := 0) (n := 0) (Nat.le_of_ble_eq_true rfl) (Nat.le_of_ble_eq_true rfl) ?_
  exact W.iret (v := tv) hx hb hr (fun t ht hW => ⟨⟨tv, (), rfl, rfl, by rw [ht]; exact hP9, hD9⟩, hS.F ht⟩) hS.2.2 dX13_thrown_4
set_option maxHeartbeats 4000000 in
set_option maxRecDepth 100000 in
theorem m_look (l : Launch) (D : va_G) (cy : Nat → ClassId) (z0 : Nat) (g : Nat → Nat) (h w : Int32) : xMi l D cy yX13_look cX13_look 5 (some .int) ({ frames := 1, cells := 0, slots := 0, locals := 21 }) [.ref z0, .int h, .int w] [(z0, .inr (13, xM g 0 0 0)), (g 1, .inl (cy 3, 8, .inl (fun _ => 0))), (g 3, .inl (cy 1, 8, .inl (fun _ => 0)))] (S := Int32) (fun r u => r = xlk h w ∧ u = xth h w) (fun u => [(z0, .inr (13, xM g 0 0 u))]) := by
  intro sz
  refine Met.ofW (cc := cX13_look) (maxL := 5) (ret := (some .int)) (by decide) rfl ?_
  intro p e s m args below meth c s₁ B hml hv
  obtain ⟨rfl, hsz, hP, hK, hD0⟩ := hv
  have hx := B.exec
  have hb := B.bytes
  have hr := B.returns
  have hts0 := atoms_spec (ws := xw yX13_look cX13_look 5 (some .int)) B.pre
  have hts : ∀ w ∈ xG, w.before _ s = true := fun w h => hts0 w (List.mem_cons_of_mem _ h)
  have hown : s.vm.findClass RX13 = some m.cls := findClass_of_methodNamed B.named
  have hlocks := B.notSynchronized
  subst hsz
  have hD := hD0.self (sz := s.heap.size)
  generalize hAe : va_A [(z0, .inr (13, xM g 0 0 0)), (g 1, .inl (cy 3, 8, .inl (fun _ => 0))), (g 3, .inl (cy 1, 8, .inl (fun _ => 0)))] s.heap.size = A at hD ⊢
  have hA : ∀ q : Nat, s.heap.size ≤ q → A q := fun q h => by rw [← hAe]; exact Or.inr h
  have hS : va_S A s.heap s.heap [] := va_S.rf
  have hl := lv_entry ([.ref z0, .int h, .int w]) (n := 5) (Nat.le_of_ble_eq_true rfl)
  rw [lg_entry_eq]
  generalize (lg_sl ([.ref z0, .int h, .int w]) ++ List.replicate (5 - (lg_sl ([.ref z0, .int h, .int w])).length) Slot.unset).toArray = ls at hl ⊢
  have hl : lv_has ls 5 [(0, .ref z0), (1, .int h), (2, .int w)] := hl
  refine lv_aload_n hx hb dX13_look_0 rfl (lv_at hl 0 rfl) ?_
  refine lv_iconst (v := 0) hx hb dX13_look_1 (by decide) ?_
  refine va_put (D := D) (ci := 13) (v := .int 0) (ty := .int) (C := RX13) (T := TX13) (N := 68) hx hb hts iG13 tyX13 tyX13_ok nmX13 hown hK.1 hP hD hS 0 rfl rfl 3 (by decide) (hts _ gw1125) (fun _ h9 => h9) rfl (by decide +kernel) rfl rfl (Nat.le_of_ble_eq_true rfl) dX13_look_2 (fun H locs hP hD hS => ?_)
  have hP : va_P D vwCl [(z0, .inr (13, xM g 0 0 0)), (g 1, .inl (cy 3, 8, .inl (fun _ => 0))), (g 3, .inl (cy 1, 8, .inl (fun _ => 0)))] H := hP
  have hD : va_D A [(z0, .inr (13, xM g 0 0 0)), (g 1, .inl (cy 3, 8, .inl (fun _ => 0))), (g 3, .inl (cy 1, 8, .inl (fun _ => 0)))] := hD
  refine lv_aload_n hx hb dX13_look_5 rfl (lv_at hl 0 rfl) ?_
  refine lv_iload_n hx hb dX13_look_6 rfl (lv_at hl 1 rfl) ?_
  refine x_calli [(z0, .inr (13, xM g 0 0 0))] [(g 1, .inl (cy 3, 8, .inl (fun _ => 0))), (g 3, .inl (cy 1, 8, .inl (fun _ => 0)))] (va_runV (As := [.int h]) (rest := []) ⟨hx, hb, hml, hown, hts⟩ (m_isHost l D cy z0 g h H.size) (cwV 1 hts (xV gw1519 gw1521 gs78 gw14 gw1522) rfl rfl rfl (by decide +kernel) ⟨(Nat.le_of_ble_eq_true rfl), (Nat.le_of_ble_eq_true rfl)⟩) (xpreV hK (hP.sub (ws' := [(z0, .inr (13, xM g 0 0 0))]) [0] rfl) (hD.sub (ws' := [(z0, .inr (13, xM g 0 0 0))]) [0] (by decide) rfl) 0 13 rfl rfl rfl) rfl rfl hl.1 rfl (lv_room (Nat.le_of_ble_eq_true rfl)) dX13_look_7 ⟨(Nat.le_of_ble_eq_true rfl), (Nat.le_of_ble_eq_true rfl)⟩) hP hD hS hA [0] [1, 2] rfl rfl (by decide) (by decide) (fun r_u_1 u_1 H locs hw_u_1 hP hD hS => ?_)
  have hP : va_P D vwCl [(g 1, .inl (cy 3, 8, .inl (fun _ => 0))), (g 3, .inl (cy 1, 8, .inl (fun _ => 0))), (z0, .inr (13, xM g 0 0 0))] H := hP
  have hD : va_D A [(g 1, .inl (cy 3, 8, .inl (fun _ => 0))), (g 3, .inl (cy 1, 8, .inl (fun _ => 0))), (z0, .inr (13, xM g 0 0 0))] := hD
  refine W.widen (k := 0) (n := 0) (Nat.le_of_ble_eq_true rfl) (Nat.le_of_ble_eq_true rfl) ?_
  rcases hw_u_1 with ⟨rfl, hb_u_1⟩ | ⟨rfl, h1_u_1, h2_u_1⟩
  · refine lv_if_ne (tgt := 19) hx hb dX13_look_10 (by decide) (fun c_2 => ?_) (fun c_2 => ?_)
    · exact absurd c_2 (by decide)
    · refine lv_aload_n hx hb dX13_look_13 rfl (lv_at hl 0 rfl) ?_
      refine lv_iconst (v := 1) hx hb dX13_look_14 (by decide) ?_
      refine x_calli [(z0, .inr (13, xM g 0 0 0))] [(g 1, .inl (cy 3, 8, .inl (fun _ => 0))), (g 3, .inl (cy 1, 8, .inl (fun _ => 0)))] (va_runV (As := [.int 1]) (rest := []) ⟨hx, hb, hml, hown, hts⟩ (m_fails l D cy z0 g 1 H.size) (cwV 1 hts (xV gw1577 gw1579 gs82 gw14 gw1580) rfl rfl rfl (by decide +kernel) ⟨(Nat.le_of_ble_eq_true rfl), (Nat.le_of_ble_eq_true rfl)⟩) (xpreV hK (hP.sub (ws' := [(z0, .inr (13, xM g 0 0 0))]) [2] rfl) (hD.sub (ws' := [(z0, .inr (13, xM g 0 0 0))]) [2] (by decide) rfl) 0 13 rfl rfl rfl) rfl rfl hl.1 rfl (lv_room (Nat.le_of_ble_eq_true rfl)) dX13_look_15 ⟨(Nat.le_of_ble_eq_true rfl), (Nat.le_of_ble_eq_true rfl)⟩) hP hD hS hA [2] [0, 1] rfl rfl (by decide) (by decide) (fun r_u_3 u_3 H locs hw_u_3 hP hD hS => ?_)
      have hP : va_P D vwCl [(g 1, .inl (cy 3, 8, .inl (fun _ => 0))), (g 3, .inl (cy 1, 8, .inl (fun _ => 0))), (z0, .inr (13, xM g 0 0 1))] H := hP
      have hD : va_D A [(g 1, .inl (cy 3, 8, .inl (fun _ => 0))), (g 3, .inl (cy 1, 8, .inl (fun _ => 0))), (z0, .inr (13, xM g 0 0 1))] := hD
      refine W.widen (k := 0) (n := 0) (Nat.le_of_ble_eq_true rfl) (Nat.le_of_ble_eq_true rfl) ?_
      refine x_cv (y := .int 0) (by rw [hw_u_3]) ?_
      have hP9 := hP.sub (ws' := [(z0, .inr (13, xM g 0 0 1))]) [2] rfl
      have hD9 := hD.sub (ws' := [(z0, .inr (13, xM g 0 0 1))]) [2] (by decide) rfl
      refine W.widen (k := 0) (n := 0) (Nat.le_of_ble_eq_true rfl) (Nat.le_of_ble_eq_true rfl) ?_
      exact W.iret (v := 0) hx hb hr (fun t ht hW => ⟨⟨0, 1, rfl, (by rcases hb_u_1 with q | q <;> exact ⟨by unfold xlk; simp [q], by unfold xth; simp [q]⟩), by rw [ht]; exact hP9, hD9⟩, hS.F ht⟩) hS.2.2 dX13_look_18
  · refine lv_if_ne (tgt := 19) hx hb dX13_look_10 (by decide) (fun c_4 => ?_) (fun c_4 => ?_)
    · refine lv_iload_n hx hb dX13_look_19 rfl (lv_at hl 2 rfl) ?_
      refine lv_if_lt (tgt := 29) hx hb dX13_look_20 (by decide) (fun c_5 => ?_) (fun c_5 => ?_)
      · refine lv_aload_n hx hb dX13_look_29 rfl (lv_at hl 0 rfl) ?_
        refine lv_iconst (v := 2) hx hb dX13_look_30 (by decide) ?_
        refine x_calli [(z0, .inr (13, xM g 0 0 0))] [(g 1, .inl (cy 3, 8, .inl (fun _ => 0))), (g 3, .inl (cy 1, 8, .inl (fun _ => 0)))] (va_runV (As := [.int 2]) (rest := []) ⟨hx, hb, hml, hown, hts⟩ (m_fails l D cy z0 g 2 H.size) (cwV 1 hts (xV gw1577 gw1579 gs82 gw14 gw1580) rfl rfl rfl (by decide +kernel) ⟨(Nat.le_of_ble_eq_true rfl), (Nat.le_of_ble_eq_true rfl)⟩) (xpreV hK (hP.sub (ws' := [(z0, .inr (13, xM g 0 0 0))]) [2] rfl) (hD.sub (ws' := [(z0, .inr (13, xM g 0 0 0))]) [2] (by decide) rfl) 0 13 rfl rfl rfl) rfl rfl hl.1 rfl (lv_room (Nat.le_of_ble_eq_true rfl)) dX13_look_31 ⟨(Nat.le_of_ble_eq_true rfl), (Nat.le_of_ble_eq_true rfl)⟩) hP hD hS hA [2] [0, 1] rfl rfl (by decide) (by decide) (fun r_u_6 u_6 H locs hw_u_6 hP hD hS => ?_)
        have hP : va_P D vwCl [(g 1, .inl (cy 3, 8, .inl (fun _ => 0))), (g 3, .inl (cy 1, 8, .inl (fun _ => 0))), (z0, .inr (13, xM g 0 0 2))] H := hP
        have hD : va_D A [(g 1, .inl (cy 3, 8, .inl (fun _ => 0))), (g 3, .inl (cy 1, 8, .inl (fun _ => 0))), (z0, .inr (13, xM g 0 0 2))] := hD
        refine W.widen (k := 0) (n := 0) (Nat.le_of_ble_eq_true rfl) (Nat.le_of_ble_eq_true rfl) ?_
        refine x_cv (y := .int 0) (by rw [hw_u_6]) ?_
        have hP9 := hP.sub (ws' := [(z0, .inr (13, xM g 0 0 2))]) [2] rfl
        have hD9 := hD.sub (ws' := [(z0, .inr (13, xM g 0 0 2))]) [2] (by decide) rfl
        refine W.widen (k := 0) (n := 0) (Nat.le_of_ble_eq_true rfl) (Nat.le_of_ble_eq_true rfl) ?_
        exact W.iret (v := 0) hx hb hr (fun t ht hW => ⟨⟨0, 2, rfl, ⟨by unfold xlk; rw [if_neg h1_u_1, if_neg h2_u_1, if_pos c_5], by unfold xth; rw [if_neg h1_u_1, if_neg h2_u_1, if_pos c_5]⟩, by rw [ht]; exact hP9, hD9⟩, hS.F ht⟩) hS.2.2 dX13_look_34
      · refine lv_iload_n hx hb dX13_look_23 rfl (lv_at hl 2 rfl) ?_
        refine lv_bipush (v := 11) hx hb dX13_look_24 (by decide) ?_
        refine lv_icmp_le (tgt := 35) hx hb dX13_look_26 (by decide) (fun c_7 => ?_) (fun c_7 => ?_)
        · refine lv_iload_n hx hb dX13_look_35 rfl (lv_at hl 2 rfl) ?_
          refine lv_bipush (v := 9) hx hb dX13_look_36 (by decide) ?_
          refine lv_icmp_ne (tgt := 48) hx hb dX13_look_38 (by decide) (fun c_8 => ?_) (fun c_8 => ?_)
          · refine lv_aload_n hx hb dX13_look_48 rfl (lv_at hl 0 rfl) ?_
            refine va_get (D := D) (ci := 13) (v := .ref (g 1)) (C := RX13) (T := TX13) (N := 68) hx hb hts iG13 hown hK.1 hP 2 rfl rfl 4 (by decide) (hts _ gw1126) (fun _ h9 => h9) rfl dX13_look_49 ?_
            refine lv_iload_n hx hb dX13_look_52 rfl (lv_at hl 1 rfl) ?_
            refine va_zald hx hb hK.1 hP 0 3 rfl rfl (xin8 h1_u_1 h2_u_1) dX13_look_53 ?_
            refine lv_if_ne (tgt := 68) hx hb dX13_look_54 (by decide) (fun c_9 => ?_) (fun c_9 => ?_)
            · exact absurd c_9 (by decide)
            · refine lv_iload_n hx hb dX13_look_57 rfl (lv_at hl 2 rfl) ?_
              refine lv_iconst (v := 2) hx hb dX13_look_58 (by decide) ?_
              refine lv_icmp_ne (tgt := 66) hx hb dX13_look_59 (by decide) (fun c_10 => ?_) (fun c_10 => ?_)
              · refine lv_iconst (v := 0) hx hb dX13_look_66 (by decide) ?_
                have hP9 := hP.sub (ws' := [(z0, .inr (13, xM g 0 0 0))]) [2] rfl
                have hD9 := hD.sub (ws' := [(z0, .inr (13, xM g 0 0 0))]) [2] (by decide) rfl
                refine W.widen (k := 0) (n := 0) (Nat.le_of_ble_eq_true rfl) (Nat.le_of_ble_eq_true rfl) ?_
                exact W.iret (v := 0) hx hb hr (fun t ht hW => ⟨⟨0, 0, rfl, ⟨by unfold xlk; rw [if_neg h1_u_1, if_neg h2_u_1, if_neg c_5, if_pos c_7]; rw [if_neg c_10], by unfold xth; rw [if_neg h1_u_1, if_neg h2_u_1, if_neg c_5, if_pos c_7]⟩, by rw [ht]; exact hP9, hD9⟩, hS.F ht⟩) hS.2.2 dX13_look_67
              · refine lv_iconst (v := (-1)) hx hb dX13_look_62 (by decide) ?_
                refine lv_goto (tgt := 67) hx hb dX13_look_63 (by decide) ?_
                have hP9 := hP.sub (ws' := [(z0, .inr (13, xM g 0 0 0))]) [2] rfl
                have hD9 := hD.sub (ws' := [(z0, .inr (13, xM g 0 0 0))]) [2] (by decide) rfl
                refine W.widen (k := 0) (n := 0) (Nat.le_of_ble_eq_true rfl) (Nat.le_of_ble_eq_true rfl) ?_
                exact W.iret (v := (-1)) hx hb hr (fun t ht hW => ⟨⟨(-1), 0, rfl, ⟨by unfold xlk; rw [if_neg h1_u_1, if_neg h2_u_1, if_neg c_5, if_pos c_7]; rw [if_pos c_10], by unfold xth; rw [if_neg h1_u_1, if_neg h2_u_1, if_neg c_5, if_pos c_7]⟩, by rw [ht]; exact hP9, hD9⟩, hS.F ht⟩) hS.2.2 dX13_look_67
          · refine lv_aload_n hx hb dX13_look_41 rfl (lv_at hl 0 rfl) ?_
            refine va_get (D := D) (ci := 13) (v := .ref (g 3)) (C := RX13) (T := TX13) (N := 68) hx hb hts iG13 hown hK.1 hP 2 rfl rfl 6 (by decide) (hts _ gw1128) (fun _ h9 => h9) rfl dX13_look_42 ?_
            refine lv_iload_n hx hb dX13_look_45 rfl (lv_at hl 1 rfl) ?_
            refine va_iald hx hb hK.1 hP 1 1 rfl rfl (xin8 h1_u_1 h2_u_1) dX13_look_46 ?_
            have hP9 := hP.sub (ws' := [(z0, .inr (13, xM g 0 0 0))]) [2] rfl
            have hD9 := hD.sub (ws' := [(z0, .inr (13, xM g 0 0 0))]) [2] (by decide) rfl
            refine W.widen (k := 0) (n := 0) (Nat.le_of_ble_eq_true rfl) (Nat.le_of_ble_eq_true rfl) ?_
            exact W.iret (v := 0) hx hb hr (fun t ht hW => ⟨⟨0, 0, rfl, ⟨by unfold xlk; rw [if_neg h1_u_1, if_neg h2_u_1, if_neg c_5, if_pos c_7]; rw [c_8]; rfl, by unfold xth; rw [if_neg h1_u_1, if_neg h2_u_1, if_neg c_5, if_pos c_7]⟩, by rw [ht]; exact hP9, hD9⟩, hS.F ht⟩) hS.2.2 dX13_look_47
        · refine lv_aload_n hx hb dX13_look_29 rfl (lv_at hl 0 rfl) ?_
          refine lv_iconst (v := 2) hx hb dX13_look_30 (by decide) ?_
          refine x_calli [(z0, .inr (13, xM g 0 0 0))] [(g 1, .inl (cy 3, 8, .inl (fun _ => 0))), (g 3, .inl (cy 1, 8, .inl (fun _ => 0)))] (va_runV (As := [.int 2]) (rest := []) ⟨hx, hb, hml, hown, hts⟩ (m_fails l D cy z0 g 2 H.size) (cwV 1 hts (xV gw1577 gw1579 gs82 gw14 gw1580) rfl rfl rfl (by decide +kernel) ⟨(Nat.le_of_ble_eq_true rfl), (Nat.le_of_ble_eq_true rfl)⟩) (xpreV hK (hP.sub (ws' := [(z0, .inr (13, xM g 0 0 0))]) [2] rfl) (hD.sub (ws' := [(z0, .inr (13, xM g 0 0 0))]) [2] (by decide) rfl) 0 13 rfl rfl rfl) rfl rfl hl.1 rfl (lv_room (Nat.le_of_ble_eq_true rfl)) dX13_look_31 ⟨(Nat.le_of_ble_eq_true rfl), (Nat.le_of_ble_eq_true rfl)⟩) hP hD hS hA [2] [0, 1] rfl rfl (by decide) (by decide) (fun r_u_11 u_11 H locs hw_u_11 hP hD hS => ?_)
          have hP : va_P D vwCl [(g 1, .inl (cy 3, 8, .inl (fun _ => 0))), (g 3, .inl (cy 1, 8, .inl (fun _ => 0))), (z0, .inr (13, xM g 0 0 2))] H := hP
          have hD : va_D A [(g 1, .inl (cy 3, 8, .inl (fun _ => 0))), (g 3, .inl (cy 1, 8, .inl (fun _ => 0))), (z0, .inr (13, xM g 0 0 2))] := hD
          refine W.widen (k := 0) (n := 0) (Nat.le_of_ble_eq_true rfl) (Nat.le_of_ble_eq_true rfl) ?_
          refine x_cv (y := .int 0) (by rw [hw_u_11]) ?_
          have hP9 := hP.sub (ws' := [(z0, .inr (13, xM g 0 0 2))]) [2] rfl
          have hD9 := hD.sub (ws' := [(z0, .inr (13, xM g 0 0 2))]) [2] (by decide) rfl
          refine W.widen (k := 0) (n := 0) (Nat.le_of_ble_eq_true rfl) (Nat.le_of_ble_eq_true rfl) ?_
          exact W.iret (v := 0) hx hb hr (fun t ht hW => ⟨⟨0, 2, rfl, ⟨by unfold xlk; rw [if_neg h1_u_1, if_neg h2_u_1, if_neg c_5, if_neg c_7], by unfold xth; rw [if_neg h1_u_1, if_neg h2_u_1, if_neg c_5, if_neg c_7]⟩, by rw [ht]; exact hP9, hD9⟩, hS.F ht⟩) hS.2.2 dX13_look_34
    · exact absurd c_4 (by decide)
set_option maxHeartbeats 4000000 in
set_option maxRecDepth 100000 in
theorem m_feed (l : Launch) (D : va_G) (cy : Nat → ClassId) (z0 : Nat) (g : Nat → Nat) (a a2 a3 a4 a5 : Int32) : xMi l D cy yX13_feed cX13_feed 8 (some .int) ({ frames := 0, cells := 0, slots := 0, locals := 0 }) [.ref z0, .int a, .int a2, .int a3, .int a4, .int a5] [(z0, .inr (13, xM g 0 0 0)), (g 0, .inl (cy 1, 200, .inl (fun _ => 0)))] (S := Unit) (fun r _ => r = 20) (fun _ => []) := by
  intro sz
  refine Met.ofW (cc := cX13_feed) (maxL := 8) (ret := (some .int)) (by decide) rfl ?_
  intro p e s m args below meth c s₁ B hml hv
  obtain ⟨rfl, hsz, hP, hK, hD0⟩ := hv
  have hx := B.exec
  have hb := B.bytes
  have hr := B.returns
  have hts0 := atoms_spec (ws := xw yX13_feed cX13_feed 8 (some .int)) B.pre
  have hts : ∀ w ∈ xG, w.before _ s = true := fun w h => hts0 w (List.mem_cons_of_mem _ h)
  have hown : s.vm.findClass RX13 = some m.cls := findClass_of_methodNamed B.named
  have hlocks := B.notSynchronized
  subst hsz
  have hD := hD0.self (sz := s.heap.size)
  generalize hAe : va_A [(z0, .inr (13, xM g 0 0 0)), (g 0, .inl (cy 1, 200, .inl (fun _ => 0)))] s.heap.size = A at hD ⊢
  have hA : ∀ q : Nat, s.heap.size ≤ q → A q := fun q h => by rw [← hAe]; exact Or.inr h
  have hS : va_S A s.heap s.heap [] := va_S.rf
  have hl := lv_entry ([.ref z0, .int a, .int a2, .int a3, .int a4, .int a5]) (n := 8) (Nat.le_of_ble_eq_true rfl)
  rw [lg_entry_eq]
  generalize (lg_sl ([.ref z0, .int a, .int a2, .int a3, .int a4, .int a5]) ++ List.replicate (8 - (lg_sl ([.ref z0, .int a, .int a2, .int a3, .int a4, .int a5])).length) Slot.unset).toArray = ls at hl ⊢
  have hl : lv_has ls 8 [(0, .ref z0), (1, .int a), (2, .int a2), (3, .int a3), (4, .int a4), (5, .int a5)] := hl
  refine lv_aload_n hx hb dX13_feed_0 rfl (lv_at hl 0 rfl) ?_
  refine lv_iconst (v := 0) hx hb dX13_feed_1 (by decide) ?_
  refine va_put (D := D) (ci := 13) (v := .int 0) (ty := .int) (C := RX13) (T := TX13) (N := 68) hx hb hts iG13 tyX13 tyX13_ok nmX13 hown hK.1 hP hD hS 0 rfl rfl 3 (by decide) (hts _ gw1125) (fun _ h9 => h9) rfl (by decide +kernel) rfl rfl (Nat.le_of_ble_eq_true rfl) dX13_feed_2 (fun H locs hP hD hS => ?_)
  have hP : va_P D vwCl [(z0, .inr (13, xM g 0 0 0)), (g 0, .inl (cy 1, 200, .inl (fun _ => 0)))] H := hP
  have hD : va_D A [(z0, .inr (13, xM g 0 0 0)), (g 0, .inl (cy 1, 200, .inl (fun _ => 0)))] := hD
  refine lv_aload_n hx hb dX13_feed_5 rfl (lv_at hl 0 rfl) ?_
  refine va_get (D := D) (ci := 13) (v := .int 0) (C := RX13) (T := TX13) (N := 68) hx hb hts iG13 hown hK.1 hP 0 rfl rfl 2 (by decide) (hts _ gw1124) (fun _ h9 => h9) rfl dX13_feed_6 ?_
  refine lv_bipush (v := 20) hx hb dX13_feed_9 (by decide) ?_
  refine lv_iadd hx hb dX13_feed_11 ?_
  refine x_ci (y := 20) (by decide) ?_
  refine lv_sipush (v := 200) hx hb dX13_feed_12 (by decide) ?_
  refine lv_icmp_le (tgt := 20) hx hb dX13_feed_15 (by decide) (fun c_1 => ?_) (fun c_1 => ?_)
  · refine lv_iconst (v := 0) hx hb dX13_feed_20 (by decide) ?_
    refine lv_istore (lv' := [(6, .int 0), (0, .ref z0), (1, .int a), (2, .int a2), (3, .int a3), (4, .int a4), (5, .int a5)]) hx hb dX13_feed_21 hl (by decide) rfl (fun ls hl => ?_)
    refine lv_iload hx hb dX13_feed_23 (lv_at hl 0 rfl) ?_
    refine lv_bipush (v := 20) hx hb dX13_feed_25 (by decide) ?_
    refine lv_icmp_ge (tgt := 113) hx hb dX13_feed_27 (by decide) (fun c_2 => ?_) (fun c_2 => ?_)
    · exact absurd c_2 (by decide)
    · refine lv_iload hx hb dX13_feed_30 (lv_at hl 0 rfl) ?_
      refine lv_iconst (v := 4) hx hb dX13_feed_32 (by decide) ?_
      refine lv_icmp_ge (tgt := 40) hx hb dX13_feed_33 (by decide) (fun c_3 => ?_) (fun c_3 => ?_)
      · exact absurd c_3 (by decide)
      · refine lv_iload_n hx hb dX13_feed_36 rfl (lv_at hl 2 rfl) ?_
        refine lv_goto (tgt := 76) hx hb dX13_feed_37 (by decide) ?_
        refine lv_istore (lv' := [(7, .int a), (6, .int 0), (0, .ref z0), (1, .int a), (2, .int a2), (3, .int a3), (4, .int a4), (5, .int a5)]) hx hb dX13_feed_76 hl (by decide) rfl (fun ls hl => ?_)
        refine lv_aload_n hx hb dX13_feed_78 rfl (lv_at hl 2 rfl) ?_
        refine va_get (D := D) (ci := 13) (v := .ref (g 0)) (C := RX13) (T := TX13) (N := 68) hx hb hts iG13 hown hK.1 hP 0 rfl rfl 1 (by decide) (hts _ gw1123) (fun _ h9 => h9) rfl dX13_feed_79 ?_
        refine lv_aload_n hx hb dX13_feed_82 rfl (lv_at hl 2 rfl) ?_
        refine va_get (D := D) (ci := 13) (v := .int 0) (C := RX13) (T := TX13) (N := 68) hx hb hts iG13 hown hK.1 hP 0 rfl rfl 2 (by decide) (hts _ gw1124) (fun _ h9 => h9) rfl dX13_feed_83 ?_
        refine lv_iload hx hb dX13_feed_86 (lv_at hl 1 rfl) ?_
        refine lv_iadd hx hb dX13_feed_88 ?_
        refine x_ci (y := 0) (by decide) ?_
        refine lv_iload hx hb dX13_feed_89 (lv_at hl 0 rfl) ?_
        refine lv_bipush (v := 24) hx hb dX13_feed_91 (by decide) ?_
        refine lv_bipush (v := 8) hx hb dX13_feed_93 (by decide) ?_
        refine lv_iload hx hb dX13_feed_95 (lv_at hl 1 rfl) ?_
        refine lv_iconst (v := 4) hx hb dX13_feed_97 (by decide) ?_
        refine lv_irem hx hb dX13_feed_98 (by decide) ?_
        refine x_ci (y := 0) (by decide) ?_
        refine lv_imul hx hb dX13_feed_99 ?_
        refine x_ci (y := 0) (by decide) ?_
        refine lv_isub hx hb dX13_feed_100 ?_
        refine x_ci (y := 24) (by decide) ?_
        refine lv_ishr hx hb dX13_feed_101 ?_
        refine lv_topi (fun z_4 ez_4 => ?_)
        refine lv_sipush (v := 255) hx hb dX13_feed_102 (by decide) ?_
        refine lv_iand hx hb dX13_feed_105 ?_
        refine lv_topi (fun z_5 ez_5 => ?_)
        refine va_iast hx hb hK.1 hP hD hS 1 1 rfl rfl (show vp_in 0 200 by unfold vp_in; decide) dX13_feed_106 (fun H locs hP hD hS => ?_)
        obtain ⟨f_6, hP, hD⟩ : ∃ f_6 : Nat → Int32, va_P D vwCl [(z0, .inr (13, xM g 0 0 0)), (g 0, .inl (cy 1, 200, .inl f_6))] H ∧ va_D A [(z0, .inr (13, xM g 0 0 0)), (g 0, .inl (cy 1, 200, .inl f_6))] := ⟨_, hP, hD⟩
        refine lv_iinc (v := 1) (lv' := [(6, .int 1), (7, .int a), (0, .ref z0), (1, .int a), (2, .int a2), (3, .int a3), (4, .int a4), (5, .int a5)]) hx hb dX13_feed_107 hl (k := 1) rfl (by decide) (by decide) rfl (fun ls hl => ?_)
        refine lv_goto (tgt := 23) hx hb dX13_feed_110 (by decide) ?_
        refine lv_iload hx hb dX13_feed_23 (lv_at hl 0 rfl) ?_
        refine lv_bipush (v := 20) hx hb dX13_feed_25 (by decide) ?_
        refine lv_icmp_ge (tgt := 113) hx hb dX13_feed_27 (by decide) (fun c_7 => ?_) (fun c_7 => ?_)
        · exact absurd c_7 (by decide)
        · refine lv_iload hx hb dX13_feed_30 (lv_at hl 0 rfl) ?_
          refine lv_iconst (v := 4) hx hb dX13_feed_32 (by decide) ?_
          refine lv_icmp_ge (tgt := 40) hx hb dX13_feed_33 (by decide) (fun c_8 => ?_) (fun c_8 => ?_)
          · exact absurd c_8 (by decide)
          · refine lv_iload_n hx hb dX13_feed_36 rfl (lv_at hl 3 rfl) ?_
            refine lv_goto (tgt := 76) hx hb dX13_feed_37 (by decide) ?_
            refine lv_istore (lv' := [(7, .int a), (6, .int 1), (0, .ref z0), (1, .int a), (2, .int a2), (3, .int a3), (4, .int a4), (5, .int a5)]) hx hb dX13_feed_76 hl (by decide) rfl (fun ls hl => ?_)
            refine lv_aload_n hx hb dX13_feed_78 rfl (lv_at hl 2 rfl) ?_
            refine va_get (D := D) (ci := 13) (v := .ref (g 0)) (C := RX13) (T := TX13) (N := 68) hx hb hts iG13 hown hK.1 hP 0 rfl rfl 1 (by decide) (hts _ gw1123) (fun _ h9 => h9) rfl dX13_feed_79 ?_
            refine lv_aload_n hx hb dX13_feed_82 rfl (lv_at hl 2 rfl) ?_
            refine va_get (D := D) (ci := 13) (v := .int 0) (C := RX13) (T := TX13) (N := 68) hx hb hts iG13 hown hK.1 hP 0 rfl rfl 2 (by decide) (hts _ gw1124) (fun _ h9 => h9) rfl dX13_feed_83 ?_
            refine lv_iload hx hb dX13_feed_86 (lv_at hl 1 rfl) ?_
            refine lv_iadd hx hb dX13_feed_88 ?_
            refine x_ci (y := 1) (by decide) ?_
            refine lv_iload hx hb dX13_feed_89 (lv_at hl 0 rfl) ?_
            refine lv_bipush (v := 24) hx hb dX13_feed_91 (by decide) ?_
            refine lv_bipush (v := 8) hx hb dX13_feed_93 (by decide) ?_
            refine lv_iload hx hb dX13_feed_95 (lv_at hl 1 rfl) ?_
            refine lv_iconst (v := 4) hx hb dX13_feed_97 (by decide) ?_
            refine lv_irem hx hb dX13_feed_98 (by decide) ?_
            refine x_ci (y := 1) (by decide) ?_
            refine lv_imul hx hb dX13_feed_99 ?_
            refine x_ci (y := 8) (by decide) ?_
            refine lv_isub hx hb dX13_feed_100 ?_
            refine x_ci (y := 16) (by decide) ?_
            refine lv_ishr hx hb dX13_feed_101 ?_
            refine lv_topi (fun z_9 ez_9 => ?_)
            refine lv_sipush (v := 255) hx hb dX13_feed_102 (by decide) ?_
            refine lv_iand hx hb dX13_feed_105 ?_
            refine lv_topi (fun z_10 ez_10 => ?_)
            refine va_iast hx hb hK.1 hP hD hS 1 1 rfl rfl (show vp_in 1 200 by unfold vp_in; decide) dX13_feed_106 (fun H locs hP hD hS => ?_)
            obtain ⟨f_11, hP, hD⟩ : ∃ f_11 : Nat → Int32, va_P D vwCl [(z0, .inr (13, xM g 0 0 0)), (g 0, .inl (cy 1, 200, .inl f_11))] H ∧ va_D A [(z0, .inr (13, xM g 0 0 0)), (g 0, .inl (cy 1, 200, .inl f_11))] := ⟨_, hP, hD⟩
            refine lv_iinc (v := 2) (lv' := [(6, .int 2), (7, .int a), (0, .ref z0), (1, .int a), (2, .int a2), (3, .int a3), (4, .int a4), (5, .int a5)]) hx hb dX13_feed_107 hl (k := 1) rfl (by decide) (by decide) rfl (fun ls hl => ?_)
            refine lv_goto (tgt := 23) hx hb dX13_feed_110 (by decide) ?_
            refine lv_iload hx hb dX13_feed_23 (lv_at hl 0 rfl) ?_
            refine lv_bipush (v := 20) hx hb dX13_feed_25 (by decide) ?_
            refine lv_icmp_ge (tgt := 113) hx hb dX13_feed_27 (by decide) (fun c_12 => ?_) (fun c_12 => ?_)
            · exact absurd c_12 (by decide)
            · refine lv_iload hx hb dX13_feed_30 (lv_at hl 0 rfl) ?_
              refine lv_iconst (v := 4) hx hb dX13_feed_32 (by decide) ?_
              refine lv_icmp_ge (tgt := 40) hx hb dX13_feed_33 (by decide) (fun c_13 => ?_) (fun c_13 => ?_)
              · exact absurd c_13 (by decide)
              · refine lv_iload_n hx hb dX13_feed_36 rfl (lv_at hl 3 rfl) ?_
                refine lv_goto (tgt := 76) hx hb dX13_feed_37 (by decide) ?_
                refine lv_istore (lv' := [(7, .int a), (6, .int 2), (0, .ref z0), (1, .int a), (2, .int a2), (3, .int a3), (4, .int a4), (5, .int a5)]) hx hb dX13_feed_76 hl (by decide) rfl (fun ls hl => ?_)
                refine lv_aload_n hx hb dX13_feed_78 rfl (lv_at hl 2 rfl) ?_
                refine va_get (D := D) (ci := 13) (v := .ref (g 0)) (C := RX13) (T := TX13) (N := 68) hx hb hts iG13 hown hK.1 hP 0 rfl rfl 1 (by decide) (hts _ gw1123) (fun _ h9 => h9) rfl dX13_feed_79 ?_
                refine lv_aload_n hx hb dX13_feed_82 rfl (lv_at hl 2 rfl) ?_
                refine va_get (D := D) (ci := 13) (v := .int 0) (C := RX13) (T := TX13) (N := 68) hx hb hts iG13 hown hK.1 hP 0 rfl rfl 2 (by decide) (hts _ gw1124) (fun _ h9 => h9) rfl dX13_feed_83 ?_
                refine lv_iload hx hb dX13_feed_86 (lv_at hl 1 rfl) ?_
                refine lv_iadd hx hb dX13_feed_88 ?_
                refine x_ci (y := 2) (by decide) ?_
                refine lv_iload hx hb dX13_feed_89 (lv_at hl 0 rfl) ?_
                refine lv_bipush (v := 24) hx hb dX13_feed_91 (by decide) ?_
                refine lv_bipush (v := 8) hx hb dX13_feed_93 (by decide) ?_
                refine lv_iload hx hb dX13_feed_95 (lv_at hl 1 rfl) ?_
                refine lv_iconst (v := 4) hx hb dX13_feed_97 (by decide) ?_
                refine lv_irem hx hb dX13_feed_98 (by decide) ?_
                refine x_ci (y := 2) (by decide) ?_
                refine lv_imul hx hb dX13_feed_99 ?_
                refine x_ci (y := 16) (by decide) ?_
                refine lv_isub hx hb dX13_feed_100 ?_
                refine x_ci (y := 8) (by decide) ?_
                refine lv_ishr hx hb dX13_feed_101 ?_
                refine lv_topi (fun z_14 ez_14 => ?_)
                refine lv_sipush (v := 255) hx hb dX13_feed_102 (by decide) ?_
                refine lv_iand hx hb dX13_feed_105 ?_
                refine lv_topi (fun z_15 ez_15 => ?_)
                refine va_iast hx hb hK.1 hP hD hS 1 1 rfl rfl (show vp_in 2 200 by unfold vp_in; decide) dX13_feed_106 (fun H locs hP hD hS => ?_)
                obtain ⟨f_16, hP, hD⟩ : ∃ f_16 : Nat → Int32, va_P D vwCl [(z0, .inr (13, xM g 0 0 0)), (g 0, .inl (cy 1, 200, .inl f_16))] H ∧ va_D A [(z0, .inr (13, xM g 0 0 0)), (g 0, .inl (cy 1, 200, .inl f_16))] := ⟨_, hP, hD⟩
                refine lv_iinc (v := 3) (lv' := [(6, .int 3), (7, .int a), (0, .ref z0), (1, .int a), (2, .int a2), (3, .int a3), (4, .int a4), (5, .int a5)]) hx hb dX13_feed_107 hl (k := 1) rfl (by decide) (by decide) rfl (fun ls hl => ?_)
                refine lv_goto (tgt := 23) hx hb dX13_feed_110 (by decide) ?_
                refine lv_iload hx hb dX13_feed_23 (lv_at hl 0 rfl) ?_
                refine lv_bipush (v := 20) hx hb dX13_feed_25 (by decide) ?_
                refine lv_icmp_ge (tgt := 113) hx hb dX13_feed_27 (by decide) (fun c_17 => ?_) (fun c_17 => ?_)
                · exact absurd c_17 (by decide)
                · refine lv_iload hx hb dX13_feed_30 (lv_at hl 0 rfl) ?_
                  refine lv_iconst (v := 4) hx hb dX13_feed_32 (by decide) ?_
                  refine lv_icmp_ge (tgt := 40) hx hb dX13_feed_33 (by decide) (fun c_18 => ?_) (fun c_18 => ?_)
                  · exact absurd c_18 (by decide)
                  · refine lv_iload_n hx hb dX13_feed_36 rfl (lv_at hl 3 rfl) ?_
                    refine lv_goto (tgt := 76) hx hb dX13_feed_37 (by decide) ?_
                    refine lv_istore (lv' := [(7, .int a), (6, .int 3), (0, .ref z0), (1, .int a), (2, .int a2), (3, .int a3), (4, .int a4), (5, .int a5)]) hx hb dX13_feed_76 hl (by decide) rfl (fun ls hl => ?_)
                    refine lv_aload_n hx hb dX13_feed_78 rfl (lv_at hl 2 rfl) ?_
                    refine va_get (D := D) (ci := 13) (v := .ref (g 0)) (C := RX13) (T := TX13) (N := 68) hx hb hts iG13 hown hK.1 hP 0 rfl rfl 1 (by decide) (hts _ gw1123) (fun _ h9 => h9) rfl dX13_feed_79 ?_
                    refine lv_aload_n hx hb dX13_feed_82 rfl (lv_at hl 2 rfl) ?_
                    refine va_get (D := D) (ci := 13) (v := .int 0) (C := RX13) (T := TX13) (N := 68) hx hb hts iG13 hown hK.1 hP 0 rfl rfl 2 (by decide) (hts _ gw1124) (fun _ h9 => h9) rfl dX13_feed_83 ?_
                    refine lv_iload hx hb dX13_feed_86 (lv_at hl 1 rfl) ?_
                    refine lv_iadd hx hb dX13_feed_88 ?_
                    refine x_ci (y := 3) (by decide) ?_
                    refine lv_iload hx hb dX13_feed_89 (lv_at hl 0 rfl) ?_
                    refine lv_bipush (v := 24) hx hb dX13_feed_91 (by decide) ?_
                    refine lv_bipush (v := 8) hx hb dX13_feed_93 (by decide) ?_
                    refine lv_iload hx hb dX13_feed_95 (lv_at hl 1 rfl) ?_
                    refine lv_iconst (v := 4) hx hb dX13_feed_97 (by decide) ?_
                    refine lv_irem hx hb dX13_feed_98 (by decide) ?_
                    refine x_ci (y := 3) (by decide) ?_
                    refine lv_imul hx hb dX13_feed_99 ?_
                    refine x_ci (y := 24) (by decide) ?_
                    refine lv_isub hx hb dX13_feed_100 ?_
                    refine x_ci (y := 0) (by decide) ?_
                    refine lv_ishr hx hb dX13_feed_101 ?_
                    refine lv_topi (fun z_19 ez_19 => ?_)
                    refine lv_sipush (v := 255) hx hb dX13_feed_102 (by decide) ?_
                    refine lv_iand hx hb dX13_feed_105 ?_
                    refine lv_topi (fun z_20 ez_20 => ?_)
                    refine va_iast hx hb hK.1 hP hD hS 1 1 rfl rfl (show vp_in 3 200 by unfold vp_in; decide) dX13_feed_106 (fun H locs hP hD hS => ?_)
                    obtain ⟨f_21, hP, hD⟩ : ∃ f_21 : Nat → Int32, va_P D vwCl [(z0, .inr (13, xM g 0 0 0)), (g 0, .inl (cy 1, 200, .inl f_21))] H ∧ va_D A [(z0, .inr (13, xM g 0 0 0)), (g 0, .inl (cy 1, 200, .inl f_21))] := ⟨_, hP, hD⟩
                    refine lv_iinc (v := 4) (lv' := [(6, .int 4), (7, .int a), (0, .ref z0), (1, .int a), (2, .int a2), (3, .int a3), (4, .int a4), (5, .int a5)]) hx hb dX13_feed_107 hl (k := 1) rfl (by decide) (by decide) rfl (fun ls hl => ?_)
                    refine lv_goto (tgt := 23) hx hb dX13_feed_110 (by decide) ?_
                    refine lv_iload hx hb dX13_feed_23 (lv_at hl 0 rfl) ?_
                    refine lv_bipush (v := 20) hx hb dX13_feed_25 (by decide) ?_
                    refine lv_icmp_ge (tgt := 113) hx hb dX13_feed_27 (by decide) (fun c_22 => ?_) (fun c_22 => ?_)
                    · exact absurd c_22 (by decide)
                    · refine lv_iload hx hb dX13_feed_30 (lv_at hl 0 rfl) ?_
                      refine lv_iconst (v := 4) hx hb dX13_feed_32 (by decide) ?_
                      refine lv_icmp_ge (tgt := 40) hx hb dX13_feed_33 (by decide) (fun c_23 => ?_) (fun c_23 => ?_)
                      · refine lv_iload hx hb dX13_feed_40 (lv_at hl 0 rfl) ?_
                        refine lv_bipush (v := 8) hx hb dX13_feed_42 (by decide) ?_
                        refine lv_icmp_ge (tgt := 51) hx hb dX13_feed_44 (by decide) (fun c_24 => ?_) (fun c_24 => ?_)
                        · exact absurd c_24 (by decide)
                        · refine lv_iload_n hx hb dX13_feed_47 rfl (lv_at hl 4 rfl) ?_
                          refine lv_goto (tgt := 76) hx hb dX13_feed_48 (by decide) ?_
                          refine lv_istore (lv' := [(7, .int a2), (6, .int 4), (0, .ref z0), (1, .int a), (2, .int a2), (3, .int a3), (4, .int a4), (5, .int a5)]) hx hb dX13_feed_76 hl (by decide) rfl (fun ls hl => ?_)
                          refine lv_aload_n hx hb dX13_feed_78 rfl (lv_at hl 2 rfl) ?_
                          refine va_get (D := D) (ci := 13) (v := .ref (g 0)) (C := RX13) (T := TX13) (N := 68) hx hb hts iG13 hown hK.1 hP 0 rfl rfl 1 (by decide) (hts _ gw1123) (fun _ h9 => h9) rfl dX13_feed_79 ?_
                          refine lv_aload_n hx hb dX13_feed_82 rfl (lv_at hl 2 rfl) ?_
                          refine va_get (D := D) (ci := 13) (v := .int 0) (C := RX13) (T := TX13) (N := 68) hx hb hts iG13 hown hK.1 hP 0 rfl rfl 2 (by decide) (hts _ gw1124) (fun _ h9 => h9) rfl dX13_feed_83 ?_
                          refine lv_iload hx hb dX13_feed_86 (lv_at hl 1 rfl) ?_
                          refine lv_iadd hx hb dX13_feed_88 ?_
                          refine x_ci (y := 4) (by decide) ?_
                          refine lv_iload hx hb dX13_feed_89 (lv_at hl 0 rfl) ?_
                          refine lv_bipush (v := 24) hx hb dX13_feed_91 (by decide) ?_
                          refine lv_bipush (v := 8) hx hb dX13_feed_93 (by decide) ?_
                          refine lv_iload hx hb dX13_feed_95 (lv_at hl 1 rfl) ?_
                          refine lv_iconst (v := 4) hx hb dX13_feed_97 (by decide) ?_
                          refine lv_irem hx hb dX13_feed_98 (by decide) ?_
                          refine x_ci (y := 0) (by decide) ?_
                          refine lv_imul hx hb dX13_feed_99 ?_
                          refine x_ci (y := 0) (by decide) ?_
                          refine lv_isub hx hb dX13_feed_100 ?_
                          refine x_ci (y := 24) (by decide) ?_
                          refine lv_ishr hx hb dX13_feed_101 ?_
                          refine lv_topi (fun z_25 ez_25 => ?_)
                          refine lv_sipush (v := 255) hx hb dX13_feed_102 (by decide) ?_
                          refine lv_iand hx hb dX13_feed_105 ?_
                          refine lv_topi (fun z_26 ez_26 => ?_)
                          refine va_iast hx hb hK.1 hP hD hS 1 1 rfl rfl (show vp_in 4 200 by unfold vp_in; decide) dX13_feed_106 (fun H locs hP hD hS => ?_)
                          obtain ⟨f_27, hP, hD⟩ : ∃ f_27 : Nat → Int32, va_P D vwCl [(z0, .inr (13, xM g 0 0 0)), (g 0, .inl (cy 1, 200, .inl f_27))] H ∧ va_D A [(z0, .inr (13, xM g 0 0 0)), (g 0, .inl (cy 1, 200, .inl f_27))] := ⟨_, hP, hD⟩
                          refine lv_iinc (v := 5) (lv' := [(6, .int 5), (7, .int a2), (0, .ref z0), (1, .int a), (2, .int a2), (3, .int a3), (4, .int a4), (5, .int a5)]) hx hb dX13_feed_107 hl (k := 1) rfl (by decide) (by decide) rfl (fun ls hl => ?_)
                          refine lv_goto (tgt := 23) hx hb dX13_feed_110 (by decide) ?_
                          refine lv_iload hx hb dX13_feed_23 (lv_at hl 0 rfl) ?_
                          refine lv_bipush (v := 20) hx hb dX13_feed_25 (by decide) ?_
                          refine lv_icmp_ge (tgt := 113) hx hb dX13_feed_27 (by decide) (fun c_28 => ?_) (fun c_28 => ?_)
                          · exact absurd c_28 (by decide)
                          · refine lv_iload hx hb dX13_feed_30 (lv_at hl 0 rfl) ?_
                            refine lv_iconst (v := 4) hx hb dX13_feed_32 (by decide) ?_
                            refine lv_icmp_ge (tgt := 40) hx hb dX13_feed_33 (by decide) (fun c_29 => ?_) (fun c_29 => ?_)
                            · refine lv_iload hx hb dX13_feed_40 (lv_at hl 0 rfl) ?_
                              refine lv_bipush (v := 8) hx hb dX13_feed_42 (by decide) ?_
                              refine lv_icmp_ge (tgt := 51) hx hb dX13_feed_44 (by decide) (fun c_30 => ?_) (fun c_30 => ?_)
                              · exact absurd c_30 (by decide)
                              · refine lv_iload_n hx hb dX13_feed_47 rfl (lv_at hl 4 rfl) ?_
                                refine lv_goto (tgt := 76) hx hb dX13_feed_48 (by decide) ?_
                                refine lv_istore (lv' := [(7, .int a2), (6, .int 5), (0, .ref z0), (1, .int a), (2, .int a2), (3, .int a3), (4, .int a4), (5, .int a5)]) hx hb dX13_feed_76 hl (by decide) rfl (fun ls hl => ?_)
                                refine lv_aload_n hx hb dX13_feed_78 rfl (lv_at hl 2 rfl) ?_
                                refine va_get (D := D) (ci := 13) (v := .ref (g 0)) (C := RX13) (T := TX13) (N := 68) hx hb hts iG13 hown hK.1 hP 0 rfl rfl 1 (by decide) (hts _ gw1123) (fun _ h9 => h9) rfl dX13_feed_79 ?_
                                refine lv_aload_n hx hb dX13_feed_82 rfl (lv_at hl 2 rfl) ?_
                                refine va_get (D := D) (ci := 13) (v := .int 0) (C := RX13) (T := TX13) (N := 68) hx hb hts iG13 hown hK.1 hP 0 rfl rfl 2 (by decide) (hts _ gw1124) (fun _ h9 => h9) rfl dX13_feed_83 ?_
                                refine lv_iload hx hb dX13_feed_86 (lv_at hl 1 rfl) ?_
                                refine lv_iadd hx hb dX13_feed_88 ?_
                                refine x_ci (y := 5) (by decide) ?_
                                refine lv_iload hx hb dX13_feed_89 (lv_at hl 0 rfl) ?_
                                refine lv_bipush (v := 24) hx hb dX13_feed_91 (by decide) ?_
                                refine lv_bipush (v := 8) hx hb dX13_feed_93 (by decide) ?_
                                refine lv_iload hx hb dX13_feed_95 (lv_at hl 1 rfl) ?_
                                refine lv_iconst (v := 4) hx hb dX13_feed_97 (by decide) ?_
                                refine lv_irem hx hb dX13_feed_98 (by decide) ?_
                                refine x_ci (y := 1) (by decide) ?_
                                refine lv_imul hx hb dX13_feed_99 ?_
                                refine x_ci (y := 8) (by decide) ?_
                                refine lv_isub hx hb dX13_feed_100 ?_
                                refine x_ci (y := 16) (by decide) ?_
                                refine lv_ishr hx hb dX13_feed_101 ?_
                                refine lv_topi (fun z_31 ez_31 => ?_)
                                refine lv_sipush (v := 255) hx hb dX13_feed_102 (by decide) ?_
                                refine lv_iand hx hb dX13_feed_105 ?_
                                refine lv_topi (fun z_32 ez_32 => ?_)
                                refine va_iast hx hb hK.1 hP hD hS 1 1 rfl rfl (show vp_in 5 200 by unfold vp_in; decide) dX13_feed_106 (fun H locs hP hD hS => ?_)
                                obtain ⟨f_33, hP, hD⟩ : ∃ f_33 : Nat → Int32, va_P D vwCl [(z0, .inr (13, xM g 0 0 0)), (g 0, .inl (cy 1, 200, .inl f_33))] H ∧ va_D A [(z0, .inr (13, xM g 0 0 0)), (g 0, .inl (cy 1, 200, .inl f_33))] := ⟨_, hP, hD⟩
                                refine lv_iinc (v := 6) (lv' := [(6, .int 6), (7, .int a2), (0, .ref z0), (1, .int a), (2, .int a2), (3, .int a3), (4, .int a4), (5, .int a5)]) hx hb dX13_feed_107 hl (k := 1) rfl (by decide) (by decide) rfl (fun ls hl => ?_)
                                refine lv_goto (tgt := 23) hx hb dX13_feed_110 (by decide) ?_
                                refine lv_iload hx hb dX13_feed_23 (lv_at hl 0 rfl) ?_
                                refine lv_bipush (v := 20) hx hb dX13_feed_25 (by decide) ?_
                                refine lv_icmp_ge (tgt := 113) hx hb dX13_feed_27 (by decide) (fun c_34 => ?_) (fun c_34 => ?_)
                                · exact absurd c_34 (by decide)
                                · refine lv_iload hx hb dX13_feed_30 (lv_at hl 0 rfl) ?_
                                  refine lv_iconst (v := 4) hx hb dX13_feed_32 (by decide) ?_
                                  refine lv_icmp_ge (tgt := 40) hx hb dX13_feed_33 (by decide) (fun c_35 => ?_) (fun c_35 => ?_)
                                  · refine lv_iload hx hb dX13_feed_40 (lv_at hl 0 rfl) ?_
                                    refine lv_bipush (v := 8) hx hb dX13_feed_42 (by decide) ?_
                                    refine lv_icmp_ge (tgt := 51) hx hb dX13_feed_44 (by decide) (fun c_36 => ?_) (fun c_36 => ?_)
                                    · exact absurd c_36 (by decide)
                                    · refine lv_iload_n hx hb dX13_feed_47 rfl (lv_at hl 4 rfl) ?_
                                      refine lv_goto (tgt := 76) hx hb dX13_feed_48 (by decide) ?_
                                      refine lv_istore (lv' := [(7, .int a2), (6, .int 6), (0, .ref z0), (1, .int a), (2, .int a2), (3, .int a3), (4, .int a4), (5, .int a5)]) hx hb dX13_feed_76 hl (by decide) rfl (fun ls hl => ?_)
                                      refine lv_aload_n hx hb dX13_feed_78 rfl (lv_at hl 2 rfl) ?_
                                      refine va_get (D := D) (ci := 13) (v := .ref (g 0)) (C := RX13) (T := TX13) (N := 68) hx hb hts iG13 hown hK.1 hP 0 rfl rfl 1 (by decide) (hts _ gw1123) (fun _ h9 => h9) rfl dX13_feed_79 ?_
                                      refine lv_aload_n hx hb dX13_feed_82 rfl (lv_at hl 2 rfl) ?_
                                      refine va_get (D := D) (ci := 13) (v := .int 0) (C := RX13) (T := TX13) (N := 68) hx hb hts iG13 hown hK.1 hP 0 rfl rfl 2 (by decide) (hts _ gw1124) (fun _ h9 => h9) rfl dX13_feed_83 ?_
                                      refine lv_iload hx hb dX13_feed_86 (lv_at hl 1 rfl) ?_
                                      refine lv_iadd hx hb dX13_feed_88 ?_
                                      refine x_ci (y := 6) (by decide) ?_
                                      refine lv_iload hx hb dX13_feed_89 (lv_at hl 0 rfl) ?_
                                      refine lv_bipush (v := 24) hx hb dX13_feed_91 (by decide) ?_
                                      refine lv_bipush (v := 8) hx hb dX13_feed_93 (by decide) ?_
                                      refine lv_iload hx hb dX13_feed_95 (lv_at hl 1 rfl) ?_
                                      refine lv_iconst (v := 4) hx hb dX13_feed_97 (by decide) ?_
                                      refine lv_irem hx hb dX13_feed_98 (by decide) ?_
                                      refine x_ci (y := 2) (by decide) ?_
                                      refine lv_imul hx hb dX13_feed_99 ?_
                                      refine x_ci (y := 16) (by decide) ?_
                                      refine lv_isub hx hb dX13_feed_100 ?_
                                      refine x_ci (y := 8) (by decide) ?_
                                      refine lv_ishr hx hb dX13_feed_101 ?_
                                      refine lv_topi (fun z_37 ez_37 => ?_)
                                      refine lv_sipush (v := 255) hx hb dX13_feed_102 (by decide) ?_
                                      refine lv_iand hx hb dX13_feed_105 ?_
                                      refine lv_topi (fun z_38 ez_38 => ?_)
                                      refine va_iast hx hb hK.1 hP hD hS 1 1 rfl rfl (show vp_in 6 200 by unfold vp_in; decide) dX13_feed_106 (fun H locs hP hD hS => ?_)
                                      obtain ⟨f_39, hP, hD⟩ : ∃ f_39 : Nat → Int32, va_P D vwCl [(z0, .inr (13, xM g 0 0 0)), (g 0, .inl (cy 1, 200, .inl f_39))] H ∧ va_D A [(z0, .inr (13, xM g 0 0 0)), (g 0, .inl (cy 1, 200, .inl f_39))] := ⟨_, hP, hD⟩
                                      refine lv_iinc (v := 7) (lv' := [(6, .int 7), (7, .int a2), (0, .ref z0), (1, .int a), (2, .int a2), (3, .int a3), (4, .int a4), (5, .int a5)]) hx hb dX13_feed_107 hl (k := 1) rfl (by decide) (by decide) rfl (fun ls hl => ?_)
                                      refine lv_goto (tgt := 23) hx hb dX13_feed_110 (by decide) ?_
                                      refine lv_iload hx hb dX13_feed_23 (lv_at hl 0 rfl) ?_
                                      refine lv_bipush (v := 20) hx hb dX13_feed_25 (by decide) ?_
                                      refine lv_icmp_ge (tgt := 113) hx hb dX13_feed_27 (by decide) (fun c_40 => ?_) (fun c_40 => ?_)
                                      · exact absurd c_40 (by decide)
                                      · refine lv_iload hx hb dX13_feed_30 (lv_at hl 0 rfl) ?_
                                        refine lv_iconst (v := 4) hx hb dX13_feed_32 (by decide) ?_
                                        refine lv_icmp_ge (tgt := 40) hx hb dX13_feed_33 (by decide) (fun c_41 => ?_) (fun c_41 => ?_)
                                        · refine lv_iload hx hb dX13_feed_40 (lv_at hl 0 rfl) ?_
                                          refine lv_bipush (v := 8) hx hb dX13_feed_42 (by decide) ?_
                                          refine lv_icmp_ge (tgt := 51) hx hb dX13_feed_44 (by decide) (fun c_42 => ?_) (fun c_42 => ?_)
                                          · exact absurd c_42 (by decide)
                                          · refine lv_iload_n hx hb dX13_feed_47 rfl (lv_at hl 4 rfl) ?_
                                            refine lv_goto (tgt := 76) hx hb dX13_feed_48 (by decide) ?_
                                            refine lv_istore (lv' := [(7, .int a2), (6, .int 7), (0, .ref z0), (1, .int a), (2, .int a2), (3, .int a3), (4, .int a4), (5, .int a5)]) hx hb dX13_feed_76 hl (by decide) rfl (fun ls hl => ?_)
                                            refine lv_aload_n hx hb dX13_feed_78 rfl (lv_at hl 2 rfl) ?_
                                            refine va_get (D := D) (ci := 13) (v := .ref (g 0)) (C := RX13) (T := TX13) (N := 68) hx hb hts iG13 hown hK.1 hP 0 rfl rfl 1 (by decide) (hts _ gw1123) (fun _ h9 => h9) rfl dX13_feed_79 ?_
                                            refine lv_aload_n hx hb dX13_feed_82 rfl (lv_at hl 2 rfl) ?_
                                            refine va_get (D := D) (ci := 13) (v := .int 0) (C := RX13) (T := TX13) (N := 68) hx hb hts iG13 hown hK.1 hP 0 rfl rfl 2 (by decide) (hts _ gw1124) (fun _ h9 => h9) rfl dX13_feed_83 ?_
                                            refine lv_iload hx hb dX13_feed_86 (lv_at hl 1 rfl) ?_
                                            refine lv_iadd hx hb dX13_feed_88 ?_
                                            refine x_ci (y := 7) (by decide) ?_
                                            refine lv_iload hx hb dX13_feed_89 (lv_at hl 0 rfl) ?_
                                            refine lv_bipush (v := 24) hx hb dX13_feed_91 (by decide) ?_
                                            refine lv_bipush (v := 8) hx hb dX13_feed_93 (by decide) ?_
                                            refine lv_iload hx hb dX13_feed_95 (lv_at hl 1 rfl) ?_
                                            refine lv_iconst (v := 4) hx hb dX13_feed_97 (by decide) ?_
                                            refine lv_irem hx hb dX13_feed_98 (by decide) ?_
                                            refine x_ci (y := 3) (by decide) ?_
                                            refine lv_imul hx hb dX13_feed_99 ?_
                                            refine x_ci (y := 24) (by decide) ?_
                                            refine lv_isub hx hb dX13_feed_100 ?_
                                            refine x_ci (y := 0) (by decide) ?_
                                            refine lv_ishr hx hb dX13_feed_101 ?_
                                            refine lv_topi (fun z_43 ez_43 => ?_)
                                            refine lv_sipush (v := 255) hx hb dX13_feed_102 (by decide) ?_
                                            refine lv_iand hx hb dX13_feed_105 ?_
                                            refine lv_topi (fun z_44 ez_44 => ?_)
                                            refine va_iast hx hb hK.1 hP hD hS 1 1 rfl rfl (show vp_in 7 200 by unfold vp_in; decide) dX13_feed_106 (fun H locs hP hD hS => ?_)
                                            obtain ⟨f_45, hP, hD⟩ : ∃ f_45 : Nat → Int32, va_P D vwCl [(z0, .inr (13, xM g 0 0 0)), (g 0, .inl (cy 1, 200, .inl f_45))] H ∧ va_D A [(z0, .inr (13, xM g 0 0 0)), (g 0, .inl (cy 1, 200, .inl f_45))] := ⟨_, hP, hD⟩
                                            refine lv_iinc (v := 8) (lv' := [(6, .int 8), (7, .int a2), (0, .ref z0), (1, .int a), (2, .int a2), (3, .int a3), (4, .int a4), (5, .int a5)]) hx hb dX13_feed_107 hl (k := 1) rfl (by decide) (by decide) rfl (fun ls hl => ?_)
                                            refine lv_goto (tgt := 23) hx hb dX13_feed_110 (by decide) ?_
                                            refine lv_iload hx hb dX13_feed_23 (lv_at hl 0 rfl) ?_
                                            refine lv_bipush (v := 20) hx hb dX13_feed_25 (by decide) ?_
                                            refine lv_icmp_ge (tgt := 113) hx hb dX13_feed_27 (by decide) (fun c_46 => ?_) (fun c_46 => ?_)
                                            · exact absurd c_46 (by decide)
                                            · refine lv_iload hx hb dX13_feed_30 (lv_at hl 0 rfl) ?_
                                              refine lv_iconst (v := 4) hx hb dX13_feed_32 (by decide) ?_
                                              refine lv_icmp_ge (tgt := 40) hx hb dX13_feed_33 (by decide) (fun c_47 => ?_) (fun c_47 => ?_)
                                              · refine lv_iload hx hb dX13_feed_40 (lv_at hl 0 rfl) ?_
                                                refine lv_bipush (v := 8) hx hb dX13_feed_42 (by decide) ?_
                                                refine lv_icmp_ge (tgt := 51) hx hb dX13_feed_44 (by decide) (fun c_48 => ?_) (fun c_48 => ?_)
                                                · refine lv_iload hx hb dX13_feed_51 (lv_at hl 0 rfl) ?_
                                                  refine lv_bipush (v := 12) hx hb dX13_feed_53 (by decide) ?_
                                                  refine lv_icmp_ge (tgt := 62) hx hb dX13_feed_55 (by decide) (fun c_49 => ?_) (fun c_49 => ?_)
                                                  · exact absurd c_49 (by decide)
                                                  · refine lv_iload_n hx hb dX13_feed_58 rfl (lv_at hl 5 rfl) ?_
                                                    refine lv_goto (tgt := 76) hx hb dX13_feed_59 (by decide) ?_
                                                    refine lv_istore (lv' := [(7, .int a3), (6, .int 8), (0, .ref z0), (1, .int a), (2, .int a2), (3, .int a3), (4, .int a4), (5, .int a5)]) hx hb dX13_feed_76 hl (by decide) rfl (fun ls hl => ?_)
                                                    refine lv_aload_n hx hb dX13_feed_78 rfl (lv_at hl 2 rfl) ?_
                                                    refine va_get (D := D) (ci := 13) (v := .ref (g 0)) (C := RX13) (T := TX13) (N := 68) hx hb hts iG13 hown hK.1 hP 0 rfl rfl 1 (by decide) (hts _ gw1123) (fun _ h9 => h9) rfl dX13_feed_79 ?_
                                                    refine lv_aload_n hx hb dX13_feed_82 rfl (lv_at hl 2 rfl) ?_
                                                    refine va_get (D := D) (ci := 13) (v := .int 0) (C := RX13) (T := TX13) (N := 68) hx hb hts iG13 hown hK.1 hP 0 rfl rfl 2 (by decide) (hts _ gw1124) (fun _ h9 => h9) rfl dX13_feed_83 ?_
                                                    refine lv_iload hx hb dX13_feed_86 (lv_at hl 1 rfl) ?_
                                                    refine lv_iadd hx hb dX13_feed_88 ?_
                                                    refine x_ci (y := 8) (by decide) ?_
                                                    refine lv_iload hx hb dX13_feed_89 (lv_at hl 0 rfl) ?_
                                                    refine lv_bipush (v := 24) hx hb dX13_feed_91 (by decide) ?_
                                                    refine lv_bipush (v := 8) hx hb dX13_feed_93 (by decide) ?_
                                                    refine lv_iload hx hb dX13_feed_95 (lv_at hl 1 rfl) ?_
                                                    refine lv_iconst (v := 4) hx hb dX13_feed_97 (by decide) ?_
                                                    refine lv_irem hx hb dX13_feed_98 (by decide) ?_
                                                    refine x_ci (y := 0) (by decide) ?_
                                                    refine lv_imul hx hb dX13_feed_99 ?_
                                                    refine x_ci (y := 0) (by decide) ?_
                                                    refine lv_isub hx hb dX13_feed_100 ?_
                                                    refine x_ci (y := 24) (by decide) ?_
                                                    refine lv_ishr hx hb dX13_feed_101 ?_
                                                    refine lv_topi (fun z_50 ez_50 => ?_)
                                                    refine lv_sipush (v := 255) hx hb dX13_feed_102 (by decide) ?_
                                                    refine lv_iand hx hb dX13_feed_105 ?_
                                                    refine lv_topi (fun z_51 ez_51 => ?_)
                                                    refine va_iast hx hb hK.1 hP hD hS 1 1 rfl rfl (show vp_in 8 200 by unfold vp_in; decide) dX13_feed_106 (fun H locs hP hD hS => ?_)
                                                    obtain ⟨f_52, hP, hD⟩ : ∃ f_52 : Nat → Int32, va_P D vwCl [(z0, .inr (13, xM g 0 0 0)), (g 0, .inl (cy 1, 200, .inl f_52))] H ∧ va_D A [(z0, .inr (13, xM g 0 0 0)), (g 0, .inl (cy 1, 200, .inl f_52))] := ⟨_, hP, hD⟩
                                                    refine lv_iinc (v := 9) (lv' := [(6, .int 9), (7, .int a3), (0, .ref z0), (1, .int a), (2, .int a2), (3, .int a3), (4, .int a4), (5, .int a5)]) hx hb dX13_feed_107 hl (k := 1) rfl (by decide) (by decide) rfl (fun ls hl => ?_)
                                                    refine lv_goto (tgt := 23) hx hb dX13_feed_110 (by decide) ?_
                                                    refine lv_iload hx hb dX13_feed_23 (lv_at hl 0 rfl) ?_
                                                    refine lv_bipush (v := 20) hx hb dX13_feed_25 (by decide) ?_
                                                    refine lv_icmp_ge (tgt := 113) hx hb dX13_feed_27 (by decide) (fun c_53 => ?_) (fun c_53 => ?_)
                                                    · exact absurd c_53 (by decide)
                                                    · refine lv_iload hx hb dX13_feed_30 (lv_at hl 0 rfl) ?_
                                                      refine lv_iconst (v := 4) hx hb dX13_feed_32 (by decide) ?_
                                                      refine lv_icmp_ge (tgt := 40) hx hb dX13_feed_33 (by decide) (fun c_54 => ?_) (fun c_54 => ?_)
                                                      · refine lv_iload hx hb dX13_feed_40 (lv_at hl 0 rfl) ?_
                                                        refine lv_bipush (v := 8) hx hb dX13_feed_42 (by decide) ?_
                                                        refine lv_icmp_ge (tgt := 51) hx hb dX13_feed_44 (by decide) (fun c_55 => ?_) (fun c_55 => ?_)
                                                        · refine lv_iload hx hb dX13_feed_51 (lv_at hl 0 rfl) ?_
                                                          refine lv_bipush (v := 12) hx hb dX13_feed_53 (by decide) ?_
                                                          refine lv_icmp_ge (tgt := 62) hx hb dX13_feed_55 (by decide) (fun c_56 => ?_) (fun c_56 => ?_)
                                                          · exact absurd c_56 (by decide)
                                                          · refine lv_iload_n hx hb dX13_feed_58 rfl (lv_at hl 5 rfl) ?_
                                                            refine lv_goto (tgt := 76) hx hb dX13_feed_59 (by decide) ?_
                                                            refine lv_istore (lv' := [(7, .int a3), (6, .int 9), (0, .ref z0), (1, .int a), (2, .int a2), (3, .int a3), (4, .int a4), (5, .int a5)]) hx hb dX13_feed_76 hl (by decide) rfl (fun ls hl => ?_)
                                                            refine lv_aload_n hx hb dX13_feed_78 rfl (lv_at hl 2 rfl) ?_
                                                            refine va_get (D := D) (ci := 13) (v := .ref (g 0)) (C := RX13) (T := TX13) (N := 68) hx hb hts iG13 hown hK.1 hP 0 rfl rfl 1 (by decide) (hts _ gw1123) (fun _ h9 => h9) rfl dX13_feed_79 ?_
                                                            refine lv_aload_n hx hb dX13_feed_82 rfl (lv_at hl 2 rfl) ?_
                                                            refine va_get (D := D) (ci := 13) (v := .int 0) (C := RX13) (T := TX13) (N := 68) hx hb hts iG13 hown hK.1 hP 0 rfl rfl 2 (by decide) (hts _ gw1124) (fun _ h9 => h9) rfl dX13_feed_83 ?_
                                                            refine lv_iload hx hb dX13_feed_86 (lv_at hl 1 rfl) ?_
                                                            refine lv_iadd hx hb dX13_feed_88 ?_
                                                            refine x_ci (y := 9) (by decide) ?_
                                                            refine lv_iload hx hb dX13_feed_89 (lv_at hl 0 rfl) ?_
                                                            refine lv_bipush (v := 24) hx hb dX13_feed_91 (by decide) ?_
                                                            refine lv_bipush (v := 8) hx hb dX13_feed_93 (by decide) ?_
                                                            refine lv_iload hx hb dX13_feed_95 (lv_at hl 1 rfl) ?_
                                                            refine lv_iconst (v := 4) hx hb dX13_feed_97 (by decide) ?_
                                                            refine lv_irem hx hb dX13_feed_98 (by decide) ?_
                                                            refine x_ci (y := 1) (by decide) ?_
                                                            refine lv_imul hx hb dX13_feed_99 ?_
                                                            refine x_ci (y := 8) (by decide) ?_
                                                            refine lv_isub hx hb dX13_feed_100 ?_
                                                            refine x_ci (y := 16) (by decide) ?_
                                                            refine lv_ishr hx hb dX13_feed_101 ?_
                                                            refine lv_topi (fun z_57 ez_57 => ?_)
                                                            refine lv_sipush (v := 255) hx hb dX13_feed_102 (by decide) ?_
                                                            refine lv_iand hx hb dX13_feed_105 ?_
                                                            refine lv_topi (fun z_58 ez_58 => ?_)
                                                            refine va_iast hx hb hK.1 hP hD hS 1 1 rfl rfl (show vp_in 9 200 by unfold vp_in; decide) dX13_feed_106 (fun H locs hP hD hS => ?_)
                                                            obtain ⟨f_59, hP, hD⟩ : ∃ f_59 : Nat → Int32, va_P D vwCl [(z0, .inr (13, xM g 0 0 0)), (g 0, .inl (cy 1, 200, .inl f_59))] H ∧ va_D A [(z0, .inr (13, xM g 0 0 0)), (g 0, .inl (cy 1, 200, .inl f_59))] := ⟨_, hP, hD⟩
                                                            refine lv_iinc (v := 10) (lv' := [(6, .int 10), (7, .int a3), (0, .ref z0), (1, .int a), (2, .int a2), (3, .int a3), (4, .int a4), (5, .int a5)]) hx hb dX13_feed_107 hl (k := 1) rfl (by decide) (by decide) rfl (fun ls hl => ?_)
                                                            refine lv_goto (tgt := 23) hx hb dX13_feed_110 (by decide) ?_
                                                            refine lv_iload hx hb dX13_feed_23 (lv_at hl 0 rfl) ?_
                                                            refine lv_bipush (v := 20) hx hb dX13_feed_25 (by decide) ?_
                                                            refine lv_icmp_ge (tgt := 113) hx hb dX13_feed_27 (by decide) (fun c_60 => ?_) (fun c_60 => ?_)
                                                            · exact absurd c_60 (by decide)
                                                            · refine lv_iload hx hb dX13_feed_30 (lv_at hl 0 rfl) ?_
                                                              refine lv_iconst (v := 4) hx hb dX13_feed_32 (by decide) ?_
                                                              refine lv_icmp_ge (tgt := 40) hx hb dX13_feed_33 (by decide) (fun c_61 => ?_) (fun c_61 => ?_)
                                                              · refine lv_iload hx hb dX13_feed_40 (lv_at hl 0 rfl) ?_
                                                                refine lv_bipush (v := 8) hx hb dX13_feed_42 (by decide) ?_
                                                                refine lv_icmp_ge (tgt := 51) hx hb dX13_feed_44 (by decide) (fun c_62 => ?_) (fun c_62 => ?_)
                                                                · refine lv_iload hx hb dX13_feed_51 (lv_at hl 0 rfl) ?_
                                                                  refine lv_bipush (v := 12) hx hb dX13_feed_53 (by decide) ?_
                                                                  refine lv_icmp_ge (tgt := 62) hx hb dX13_feed_55 (by decide) (fun c_63 => ?_) (fun c_63 => ?_)
                                                                  · exact absurd c_63 (by decide)
                                                                  · refine lv_iload_n hx hb dX13_feed_58 rfl (lv_at hl 5 rfl) ?_
                                                                    refine lv_goto (tgt := 76) hx hb dX13_feed_59 (by decide) ?_
                                                                    refine lv_istore (lv' := [(7, .int a3), (6, .int 10), (0, .ref z0), (1, .int a), (2, .int a2), (3, .int a3), (4, .int a4), (5, .int a5)]) hx hb dX13_feed_76 hl (by decide) rfl (fun ls hl => ?_)
                                                                    refine lv_aload_n hx hb dX13_feed_78 rfl (lv_at hl 2 rfl) ?_
                                                                    refine va_get (D := D) (ci := 13) (v := .ref (g 0)) (C := RX13) (T := TX13) (N := 68) hx hb hts iG13 hown hK.1 hP 0 rfl rfl 1 (by decide) (hts _ gw1123) (fun _ h9 => h9) rfl dX13_feed_79 ?_
                                                                    refine lv_aload_n hx hb dX13_feed_82 rfl (lv_at hl 2 rfl) ?_
                                                                    refine va_get (D := D) (ci := 13) (v := .int 0) (C := RX13) (T := TX13) (N := 68) hx hb hts iG13 hown hK.1 hP 0 rfl rfl 2 (by decide) (hts _ gw1124) (fun _ h9 => h9) rfl dX13_feed_83 ?_
                                                                    refine lv_iload hx hb dX13_feed_86 (lv_at hl 1 rfl) ?_
                                                                    refine lv_iadd hx hb dX13_feed_88 ?_
                                                                    refine x_ci (y := 10) (by decide) ?_
                                                                    refine lv_iload hx hb dX13_feed_89 (lv_at hl 0 rfl) ?_
                                                                    refine lv_bipush (v := 24) hx hb dX13_feed_91 (by decide) ?_
                                                                    refine lv_bipush (v := 8) hx hb dX13_feed_93 (by decide) ?_
                                                                    refine lv_iload hx hb dX13_feed_95 (lv_at hl 1 rfl) ?_
                                                                    refine lv_iconst (v := 4) hx hb dX13_feed_97 (by decide) ?_
                                                                    refine lv_irem hx hb dX13_feed_98 (by decide) ?_
                                                                    refine x_ci (y := 2) (by decide) ?_
                                                                    refine lv_imul hx hb dX13_feed_99 ?_
                                                                    refine x_ci (y := 16) (by decide) ?_
                                                                    refine lv_isub hx hb dX13_feed_100 ?_
                                                                    refine x_ci (y := 8) (by decide) ?_
                                                                    refine lv_ishr hx hb dX13_feed_101 ?_
                                                                    refine lv_topi (fun z_64 ez_64 => ?_)
                                                                    refine lv_sipush (v := 255) hx hb dX13_feed_102 (by decide) ?_
                                                                    refine lv_iand hx hb dX13_feed_105 ?_
                                                                    refine lv_topi (fun z_65 ez_65 => ?_)
                                                                    refine va_iast hx hb hK.1 hP hD hS 1 1 rfl rfl (show vp_in 10 200 by unfold vp_in; decide) dX13_feed_106 (fun H locs hP hD hS => ?_)
                                                                    obtain ⟨f_66, hP, hD⟩ : ∃ f_66 : Nat → Int32, va_P D vwCl [(z0, .inr (13, xM g 0 0 0)), (g 0, .inl (cy 1, 200, .inl f_66))] H ∧ va_D A [(z0, .inr (13, xM g 0 0 0)), (g 0, .inl (cy 1, 200, .inl f_66))] := ⟨_, hP, hD⟩
                                                                    refine lv_iinc (v := 11) (lv' := [(6, .int 11), (7, .int a3), (0, .ref z0), (1, .int a), (2, .int a2), (3, .int a3), (4, .int a4), (5, .int a5)]) hx hb dX13_feed_107 hl (k := 1) rfl (by decide) (by decide) rfl (fun ls hl => ?_)
                                                                    refine lv_goto (tgt := 23) hx hb dX13_feed_110 (by decide) ?_
                                                                    refine lv_iload hx hb dX13_feed_23 (lv_at hl 0 rfl) ?_
                                                                    refine lv_bipush (v := 20) hx hb dX13_feed_25 (by decide) ?_
                                                                    refine lv_icmp_ge (tgt := 113) hx hb dX13_feed_27 (by decide) (fun c_67 => ?_) (fun c_67 => ?_)
                                                                    · exact absurd c_67 (by decide)
                                                                    · refine lv_iload hx hb dX13_feed_30 (lv_at hl 0 rfl) ?_
                                                                      refine lv_iconst (v := 4) hx hb dX13_feed_32 (by decide) ?_
                                                                      refine lv_icmp_ge (tgt := 40) hx hb dX13_feed_33 (by decide) (fun c_68 => ?_) (fun c_68 => ?_)
                                                                      · refine lv_iload hx hb dX13_feed_40 (lv_at hl 0 rfl) ?_
                                                                        refine lv_bipush (v := 8) hx hb dX13_feed_42 (by decide) ?_
                                                                        refine lv_icmp_ge (tgt := 51) hx hb dX13_feed_44 (by decide) (fun c_69 => ?_) (fun c_69 => ?_)
                                                                        · refine lv_iload hx hb dX13_feed_51 (lv_at hl 0 rfl) ?_
                                                                          refine lv_bipush (v := 12) hx hb dX13_feed_53 (by decide) ?_
                                                                          refine lv_icmp_ge (tgt := 62) hx hb dX13_feed_55 (by decide) (fun c_70 => ?_) (fun c_70 => ?_)
                                                                          · exact absurd c_70 (by decide)
                                                                          · refine lv_iload_n hx hb dX13_feed_58 rfl (lv_at hl 5 rfl) ?_
                                                                            refine lv_goto (tgt := 76) hx hb dX13_feed_59 (by decide) ?_
                                                                            refine lv_istore (lv' := [(7, .int a3), (6, .int 11), (0, .ref z0), (1, .int a), (2, .int a2), (3, .int a3), (4, .int a4), (5, .int a5)]) hx hb dX13_feed_76 hl (by decide) rfl (fun ls hl => ?_)
                                                                            refine lv_aload_n hx hb dX13_feed_78 rfl (lv_at hl 2 rfl) ?_
                                                                            refine va_get (D := D) (ci := 13) (v := .ref (g 0)) (C := RX13) (T := TX13) (N := 68) hx hb hts iG13 hown hK.1 hP 0 rfl rfl 1 (by decide) (hts _ gw1123) (fun _ h9 => h9) rfl dX13_feed_79 ?_
                                                                            refine lv_aload_n hx hb dX13_feed_82 rfl (lv_at hl 2 rfl) ?_
                                                                            refine va_get (D := D) (ci := 13) (v := .int 0) (C := RX13) (T := TX13) (N := 68) hx hb hts iG13 hown hK.1 hP 0 rfl rfl 2 (by decide) (hts _ gw1124) (fun _ h9 => h9) rfl dX13_feed_83 ?_
                                                                            refine lv_iload hx hb dX13_feed_86 (lv_at hl 1 rfl) ?_
                                                                            refine lv_iadd hx hb dX13_feed_88 ?_
                                                                            refine x_ci (y := 11) (by decide) ?_
                                                                            refine lv_iload hx hb dX13_feed_89 (lv_at hl 0 rfl) ?_
                                                                            refine lv_bipush (v := 24) hx hb dX13_feed_91 (by decide) ?_
                                                                            refine lv_bipush (v := 8) hx hb dX13_feed_93 (by decide) ?_
                                                                            refine lv_iload hx hb dX13_feed_95 (lv_at hl 1 rfl) ?_
                                                                            refine lv_iconst (v := 4) hx hb dX13_feed_97 (by decide) ?_
                                                                            refine lv_irem hx hb dX13_feed_98 (by decide) ?_
                                                                            refine x_ci (y := 3) (by decide) ?_
                                                                            refine lv_imul hx hb dX13_feed_99 ?_
                                                                            refine x_ci (y := 24) (by decide) ?_
                                                                            refine lv_isub hx hb dX13_feed_100 ?_
                                                                            refine x_ci (y := 0) (by decide) ?_
                                                                            refine lv_ishr hx hb dX13_feed_101 ?_
                                                                            refine lv_topi (fun z_71 ez_71 => ?_)
                                                                            refine lv_sipush (v := 255) hx hb dX13_feed_102 (by decide) ?_
                                                                            refine lv_iand hx hb dX13_feed_105 ?_
                                                                            refine lv_topi (fun z_72 ez_72 => ?_)
                                                                            refine va_iast hx hb hK.1 hP hD hS 1 1 rfl rfl (show vp_in 11 200 by unfold vp_in; decide) dX13_feed_106 (fun H locs hP hD hS => ?_)
                                                                            obtain ⟨f_73, hP, hD⟩ : ∃ f_73 : Nat → Int32, va_P D vwCl [(z0, .inr (13, xM g 0 0 0)), (g 0, .inl (cy 1, 200, .inl f_73))] H ∧ va_D A [(z0, .inr (13, xM g 0 0 0)), (g 0, .inl (cy 1, 200, .inl f_73))] := ⟨_, hP, hD⟩
                                                                            refine lv_iinc (v := 12) (lv' := [(6, .int 12), (7, .int a3), (0, .ref z0), (1, .int a), (2, .int a2), (3, .int a3), (4, .int a4), (5, .int a5)]) hx hb dX13_feed_107 hl (k := 1) rfl (by decide) (by decide) rfl (fun ls hl => ?_)
                                                                            refine lv_goto (tgt := 23) hx hb dX13_feed_110 (by decide) ?_
                                                                            refine lv_iload hx hb dX13_feed_23 (lv_at hl 0 rfl) ?_
                                                                            refine lv_bipush (v := 20) hx hb dX13_feed_25 (by decide) ?_
                                                                            refine lv_icmp_ge (tgt := 113) hx hb dX13_feed_27 (by decide) (fun c_74 => ?_) (fun c_74 => ?_)
                                                                            · exact absurd c_74 (by decide)
                                                                            · refine lv_iload hx hb dX13_feed_30 (lv_at hl 0 rfl) ?_
                                                                              refine lv_iconst (v := 4) hx hb dX13_feed_32 (by decide) ?_
                                                                              refine lv_icmp_ge (tgt := 40) hx hb dX13_feed_33 (by decide) (fun c_75 => ?_) (fun c_75 => ?_)
                                                                              · refine lv_iload hx hb dX13_feed_40 (lv_at hl 0 rfl) ?_
                                                                                refine lv_bipush (v := 8) hx hb dX13_feed_42 (by decide) ?_
                                                                                refine lv_icmp_ge (tgt := 51) hx hb dX13_feed_44 (by decide) (fun c_76 => ?_) (fun c_76 => ?_)
                                                                                · refine lv_iload hx hb dX13_feed_51 (lv_at hl 0 rfl) ?_
                                                                                  refine lv_bipush (v := 12) hx hb dX13_feed_53 (by decide) ?_
                                                                                  refine lv_icmp_ge (tgt := 62) hx hb dX13_feed_55 (by decide) (fun c_77 => ?_) (fun c_77 => ?_)
                                                                                  · refine lv_iload hx hb dX13_feed_62 (lv_at hl 0 rfl) ?_
                                                                                    refine lv_bipush (v := 16) hx hb dX13_feed_64 (by decide) ?_
                                                                                    refine lv_icmp_ge (tgt := 74) hx hb dX13_feed_66 (by decide) (fun c_78 => ?_) (fun c_78 => ?_)
                                                                                    · exact absurd c_78 (by decide)
                                                                                    · refine lv_iload hx hb dX13_feed_69 (lv_at hl 6 rfl) ?_
                                                                                      refine lv_goto (tgt := 76) hx hb dX13_feed_71 (by decide) ?_
                                                                                      refine lv_istore (lv' := [(7, .int a4), (6, .int 12), (0, .ref z0), (1, .int a), (2, .int a2), (3, .int a3), (4, .int a4), (5, .int a5)]) hx hb dX13_feed_76 hl (by decide) rfl (fun ls hl => ?_)
                                                                                      refine lv_aload_n hx hb dX13_feed_78 rfl (lv_at hl 2 rfl) ?_
                                                                                      refine va_get (D := D) (ci := 13) (v := .ref (g 0)) (C := RX13) (T := TX13) (N := 68) hx hb hts iG13 hown hK.1 hP 0 rfl rfl 1 (by decide) (hts _ gw1123) (fun _ h9 => h9) rfl dX13_feed_79 ?_
                                                                                      refine lv_aload_n hx hb dX13_feed_82 rfl (lv_at hl 2 rfl) ?_
                                                                                      refine va_get (D := D) (ci := 13) (v := .int 0) (C := RX13) (T := TX13) (N := 68) hx hb hts iG13 hown hK.1 hP 0 rfl rfl 2 (by decide) (hts _ gw1124) (fun _ h9 => h9) rfl dX13_feed_83 ?_
                                                                                      refine lv_iload hx hb dX13_feed_86 (lv_at hl 1 rfl) ?_
                                                                                      refine lv_iadd hx hb dX13_feed_88 ?_
                                                                                      refine x_ci (y := 12) (by decide) ?_
                                                                                      refine lv_iload hx hb dX13_feed_89 (lv_at hl 0 rfl) ?_
                                                                                      refine lv_bipush (v := 24) hx hb dX13_feed_91 (by decide) ?_
                                                                                      refine lv_bipush (v := 8) hx hb dX13_feed_93 (by decide) ?_
                                                                                      refine lv_iload hx hb dX13_feed_95 (lv_at hl 1 rfl) ?_
                                                                                      refine lv_iconst (v := 4) hx hb dX13_feed_97 (by decide) ?_
                                                                                      refine lv_irem hx hb dX13_feed_98 (by decide) ?_
                                                                                      refine x_ci (y := 0) (by decide) ?_
                                                                                      refine lv_imul hx hb dX13_feed_99 ?_
                                                                                      refine x_ci (y := 0) (by decide) ?_
                                                                                      refine lv_isub hx hb dX13_feed_100 ?_
                                                                                      refine x_ci (y := 24) (by decide) ?_
                                                                                      refine lv_ishr hx hb dX13_feed_101 ?_
                                                                                      refine lv_topi (fun z_79 ez_79 => ?_)
                                                                                      refine lv_sipush (v := 255) hx hb dX13_feed_102 (by decide) ?_
                                                                                      refine lv_iand hx hb dX13_feed_105 ?_
                                                                                      refine lv_topi (fun z_80 ez_80 => ?_)
                                                                                      refine va_iast hx hb hK.1 hP hD hS 1 1 rfl rfl (show vp_in 12 200 by unfold vp_in; decide) dX13_feed_106 (fun H locs hP hD hS => ?_)
                                                                                      obtain ⟨f_81, hP, hD⟩ : ∃ f_81 : Nat → Int32, va_P D vwCl [(z0, .inr (13, xM g 0 0 0)), (g 0, .inl (cy 1, 200, .inl f_81))] H ∧ va_D A [(z0, .inr (13, xM g 0 0 0)), (g 0, .inl (cy 1, 200, .inl f_81))] := ⟨_, hP, hD⟩
                                                                                      refine lv_iinc (v := 13) (lv' := [(6, .int 13), (7, .int a4), (0, .ref z0), (1, .int a), (2, .int a2), (3, .int a3), (4, .int a4), (5, .int a5)]) hx hb dX13_feed_107 hl (k := 1) rfl (by decide) (by decide) rfl (fun ls hl => ?_)
                                                                                      refine lv_goto (tgt := 23) hx hb dX13_feed_110 (by decide) ?_
                                                                                      refine lv_iload hx hb dX13_feed_23 (lv_at hl 0 rfl) ?_
                                                                                      refine lv_bipush (v := 20) hx hb dX13_feed_25 (by decide) ?_
                                                                                      refine lv_icmp_ge (tgt := 113) hx hb dX13_feed_27 (by decide) (fun c_82 => ?_) (fun c_82 => ?_)
                                                                                      · exact absurd c_82 (by decide)
                                                                                      · refine lv_iload hx hb dX13_feed_30 (lv_at hl 0 rfl) ?_
                                                                                        refine lv_iconst (v := 4) hx hb dX13_feed_32 (by decide) ?_
                                                                                        refine lv_icmp_ge (tgt := 40) hx hb dX13_feed_33 (by decide) (fun c_83 => ?_) (fun c_83 => ?_)
                                                                                        · refine lv_iload hx hb dX13_feed_40 (lv_at hl 0 rfl) ?_
                                                                                          refine lv_bipush (v := 8) hx hb dX13_feed_42 (by decide) ?_
                                                                                          refine lv_icmp_ge (tgt := 51) hx hb dX13_feed_44 (by decide) (fun c_84 => ?_) (fun c_84 => ?_)
                                                                                          · refine lv_iload hx hb dX13_feed_51 (lv_at hl 0 rfl) ?_
                                                                                            refine lv_bipush (v := 12) hx hb dX13_feed_53 (by decide) ?_
                                                                                            refine lv_icmp_ge (tgt := 62) hx hb dX13_feed_55 (by decide) (fun c_85 => ?_) (fun c_85 => ?_)
                                                                                            · refine lv_iload hx hb dX13_feed_62 (lv_at hl 0 rfl) ?_
                                                                                              refine lv_bipush (v := 16) hx hb dX13_feed_64 (by decide) ?_
                                                                                              refine lv_icmp_ge (tgt := 74) hx hb dX13_feed_66 (by decide) (fun c_86 => ?_) (fun c_86 => ?_)
                                                                                              · exact absurd c_86 (by decide)
                                                                                              · refine lv_iload hx hb dX13_feed_69 (lv_at hl 6 rfl) ?_
                                                                                                refine lv_goto (tgt := 76) hx hb dX13_feed_71 (by decide) ?_
                                                                                                refine lv_istore (lv' := [(7, .int a4), (6, .int 13), (0, .ref z0), (1, .int a), (2, .int a2), (3, .int a3), (4, .int a4), (5, .int a5)]) hx hb dX13_feed_76 hl (by decide) rfl (fun ls hl => ?_)
                                                                                                refine lv_aload_n hx hb dX13_feed_78 rfl (lv_at hl 2 rfl) ?_
                                                                                                refine va_get (D := D) (ci := 13) (v := .ref (g 0)) (C := RX13) (T := TX13) (N := 68) hx hb hts iG13 hown hK.1 hP 0 rfl rfl 1 (by decide) (hts _ gw1123) (fun _ h9 => h9) rfl dX13_feed_79 ?_
                                                                                                refine lv_aload_n hx hb dX13_feed_82 rfl (lv_at hl 2 rfl) ?_
                                                                                                refine va_get (D := D) (ci := 13) (v := .int 0) (C := RX13) (T := TX13) (N := 68) hx hb hts iG13 hown hK.1 hP 0 rfl rfl 2 (by decide) (hts _ gw1124) (fun _ h9 => h9) rfl dX13_feed_83 ?_
                                                                                                refine lv_iload hx hb dX13_feed_86 (lv_at hl 1 rfl) ?_
                                                                                                refine lv_iadd hx hb dX13_feed_88 ?_
                                                                                                refine x_ci (y := 13) (by decide) ?_
                                                                                                refine lv_iload hx hb dX13_feed_89 (lv_at hl 0 rfl) ?_
                                                                                                refine lv_bipush (v := 24) hx hb dX13_feed_91 (by decide) ?_
                                                                                                refine lv_bipush (v := 8) hx hb dX13_feed_93 (by decide) ?_
                                                                                                refine lv_iload hx hb dX13_feed_95 (lv_at hl 1 rfl) ?_
                                                                                                refine lv_iconst (v := 4) hx hb dX13_feed_97 (by decide) ?_
                                                                                                refine lv_irem hx hb dX13_feed_98 (by decide) ?_
                                                                                                refine x_ci (y := 1) (by decide) ?_
                                                                                                refine lv_imul hx hb dX13_feed_99 ?_
                                                                                                refine x_ci (y := 8) (by decide) ?_
                                                                                                refine lv_isub hx hb dX13_feed_100 ?_
                                                                                                refine x_ci (y := 16) (by decide) ?_
                                                                                                refine lv_ishr hx hb dX13_feed_101 ?_
                                                                                                refine lv_topi (fun z_87 ez_87 => ?_)
                                                                                                refine lv_sipush (v := 255) hx hb dX13_feed_102 (by decide) ?_
                                                                                                refine lv_iand hx hb dX13_feed_105 ?_
                                                                                                refine lv_topi (fun z_88 ez_88 => ?_)
                                                                                                refine va_iast hx hb hK.1 hP hD hS 1 1 rfl rfl (show vp_in 13 200 by unfold vp_in; decide) dX13_feed_106 (fun H locs hP hD hS => ?_)
                                                                                                obtain ⟨f_89, hP, hD⟩ : ∃ f_89 : Nat → Int32, va_P D vwCl [(z0, .inr (13, xM g 0 0 0)), (g 0, .inl (cy 1, 200, .inl f_89))] H ∧ va_D A [(z0, .inr (13, xM g 0 0 0)), (g 0, .inl (cy 1, 200, .inl f_89))] := ⟨_, hP, hD⟩
                                                                                                refine lv_iinc (v := 14) (lv' := [(6, .int 14), (7, .int a4), (0, .ref z0), (1, .int a), (2, .int a2), (3, .int a3), (4, .int a4), (5, .int a5)]) hx hb dX13_feed_107 hl (k := 1) rfl (by decide) (by decide) rfl (fun ls hl => ?_)
                                                                                                refine lv_goto (tgt := 23) hx hb dX13_feed_110 (by decide) ?_
                                                                                                refine lv_iload hx hb dX13_feed_23 (lv_at hl 0 rfl) ?_
                                                                                                refine lv_bipush (v := 20) hx hb dX13_feed_25 (by decide) ?_
                                                                                                refine lv_icmp_ge (tgt := 113) hx hb dX13_feed_27 (by decide) (fun c_90 => ?_) (fun c_90 => ?_)
                                                                                                · exact absurd c_90 (by decide)
                                                                                                · refine lv_iload hx hb dX13_feed_30 (lv_at hl 0 rfl) ?_
                                                                                                  refine lv_iconst (v := 4) hx hb dX13_feed_32 (by decide) ?_
                                                                                                  refine lv_icmp_ge (tgt := 40) hx hb dX13_feed_33 (by decide) (fun c_91 => ?_) (fun c_91 => ?_)
                                                                                                  · refine lv_iload hx hb dX13_feed_40 (lv_at hl 0 rfl) ?_
                                                                                                    refine lv_bipush (v := 8) hx hb dX13_feed_42 (by decide) ?_
                                                                                                    refine lv_icmp_ge (tgt := 51) hx hb dX13_feed_44 (by decide) (fun c_92 => ?_) (fun c_92 => ?_)
                                                                                                    · refine lv_iload hx hb dX13_feed_51 (lv_at hl 0 rfl) ?_
                                                                                                      refine lv_bipush (v := 12) hx hb dX13_feed_53 (by decide) ?_
                                                                                                      refine lv_icmp_ge (tgt := 62) hx hb dX13_feed_55 (by decide) (fun c_93 => ?_) (fun c_93 => ?_)
                                                                                                      · refine lv_iload hx hb dX13_feed_62 (lv_at hl 0 rfl) ?_
                                                                                                        refine lv_bipush (v := 16) hx hb dX13_feed_64 (by decide) ?_
                                                                                                        refine lv_icmp_ge (tgt := 74) hx hb dX13_feed_66 (by decide) (fun c_94 => ?_) (fun c_94 => ?_)
                                                                                                        · exact absurd c_94 (by decide)
                                                                                                        · refine lv_iload hx hb dX13_feed_69 (lv_at hl 6 rfl) ?_
                                                                                                          refine lv_goto (tgt := 76) hx hb dX13_feed_71 (by decide) ?_
                                                                                                          refine lv_istore (lv' := [(7, .int a4), (6, .int 14), (0, .ref z0), (1, .int a), (2, .int a2), (3, .int a3), (4, .int a4), (5, .int a5)]) hx hb dX13_feed_76 hl (by decide) rfl (fun ls hl => ?_)
                                                                                                          refine lv_aload_n hx hb dX13_feed_78 rfl (lv_at hl 2 rfl) ?_
                                                                                                          refine va_get (D := D) (ci := 13) (v := .ref (g 0)) (C := RX13) (T := TX13) (N := 68) hx hb hts iG13 hown hK.1 hP 0 rfl rfl 1 (by decide) (hts _ gw1123) (fun _ h9 => h9) rfl dX13_feed_79 ?_
                                                                                                          refine lv_aload_n hx hb dX13_feed_82 rfl (lv_at hl 2 rfl) ?_
                                                                                                          refine va_get (D := D) (ci := 13) (v := .int 0) (C := RX13) (T := TX13) (N := 68) hx hb hts iG13 hown hK.1 hP 0 rfl rfl 2 (by decide) (hts _ gw1124) (fun _ h9 => h9) rfl dX13_feed_83 ?_
                                                                                                          refine lv_iload hx hb dX13_feed_86 (lv_at hl 1 rfl) ?_
                                                                                                          refine lv_iadd hx hb dX13_feed_88 ?_
                                                                                                          refine x_ci (y := 14) (by decide) ?_
                                                                                                          refine lv_iload hx hb dX13_feed_89 (lv_at hl 0 rfl) ?_
                                                                                                          refine lv_bipush (v := 24) hx hb dX13_feed_91 (by decide) ?_
                                                                                                          refine lv_bipush (v := 8) hx hb dX13_feed_93 (by decide) ?_
                                                                                                          refine lv_iload hx hb dX13_feed_95 (lv_at hl 1 rfl) ?_
                                                                                                          refine lv_iconst (v := 4) hx hb dX13_feed_97 (by decide) ?_
                                                                                                          refine lv_irem hx hb dX13_feed_98 (by decide) ?_
                                                                                                          refine x_ci (y := 2) (by decide) ?_
                                                                                                          refine lv_imul hx hb dX13_feed_99 ?_
                                                                                                          refine x_ci (y := 16) (by decide) ?_
                                                                                                          refine lv_isub hx hb dX13_feed_100 ?_
                                                                                                          refine x_ci (y := 8) (by decide) ?_
                                                                                                          refine lv_ishr hx hb dX13_feed_101 ?_
                                                                                                          refine lv_topi (fun z_95 ez_95 => ?_)
                                                                                                          refine lv_sipush (v := 255) hx hb dX13_feed_102 (by decide) ?_
                                                                                                          refine lv_iand hx hb dX13_feed_105 ?_
                                                                                                          refine lv_topi (fun z_96 ez_96 => ?_)
                                                                                                          refine va_iast hx hb hK.1 hP hD hS 1 1 rfl rfl (show vp_in 14 200 by unfold vp_in; decide) dX13_feed_106 (fun H locs hP hD hS => ?_)
                                                                                                          obtain ⟨f_97, hP, hD⟩ : ∃ f_97 : Nat → Int32, va_P D vwCl [(z0, .inr (13, xM g 0 0 0)), (g 0, .inl (cy 1, 200, .inl f_97))] H ∧ va_D A [(z0, .inr (13, xM g 0 0 0)), (g 0, .inl (cy 1, 200, .inl f_97))] := ⟨_, hP, hD⟩
                                                                                                          refine lv_iinc (v := 15) (lv' := [(6, .int 15), (7, .int a4), (0, .ref z0), (1, .int a), (2, .int a2), (3, .int a3), (4, .int a4), (5, .int a5)]) hx hb dX13_feed_107 hl (k := 1) rfl (by decide) (by decide) rfl (fun ls hl => ?_)
                                                                                                          refine lv_goto (tgt := 23) hx hb dX13_feed_110 (by decide) ?_
                                                                                                          refine lv_iload hx hb dX13_feed_23 (lv_at hl 0 rfl) ?_
                                                                                                          refine lv_bipush (v := 20) hx hb dX13_feed_25 (by decide) ?_
                                                                                                          refine lv_icmp_ge (tgt := 113) hx hb dX13_feed_27 (by decide) (fun c_98 => ?_) (fun c_98 => ?_)
                                                                                                          · exact absurd c_98 (by decide)
                                                                                                          · refine lv_iload hx hb dX13_feed_30 (lv_at hl 0 rfl) ?_
                                                                                                            refine lv_iconst (v := 4) hx hb dX13_feed_32 (by decide) ?_
                                                                                                            refine lv_icmp_ge (tgt := 40) hx hb dX13_feed_33 (by decide) (fun c_99 => ?_) (fun c_99 => ?_)
                                                                                                            · refine lv_iload hx hb dX13_feed_40 (lv_at hl 0 rfl) ?_
                                                                                                              refine lv_bipush (v := 8) hx hb dX13_feed_42 (by decide) ?_
                                                                                                              refine lv_icmp_ge (tgt := 51) hx hb dX13_feed_44 (by decide) (fun c_100 => ?_) (fun c_100 => ?_)
                                                                                                              · refine lv_iload hx hb dX13_feed_51 (lv_at hl 0 rfl) ?_
                                                                                                                refine lv_bipush (v := 12) hx hb dX13_feed_53 (by decide) ?_
                                                                                                                refine lv_icmp_ge (tgt := 62) hx hb dX13_feed_55 (by decide) (fun c_101 => ?_) (fun c_101 => ?_)
                                                                                                                · refine lv_iload hx hb dX13_feed_62 (lv_at hl 0 rfl) ?_
                                                                                                                  refine lv_bipush (v := 16) hx hb dX13_feed_64 (by decide) ?_
                                                                                                                  refine lv_icmp_ge (tgt := 74) hx hb dX13_feed_66 (by decide) (fun c_102 => ?_) (fun c_102 => ?_)
                                                                                                                  · exact absurd c_102 (by decide)
                                                                                                                  · refine lv_iload hx hb dX13_feed_69 (lv_at hl 6 rfl) ?_
                                                                                                                    refine lv_goto (tgt := 76) hx hb dX13_feed_71 (by decide) ?_
                                                                                                                    refine lv_istore (lv' := [(7, .int a4), (6, .int 15), (0, .ref z0), (1, .int a), (2, .int a2), (3, .int a3), (4, .int a4), (5, .int a5)]) hx hb dX13_feed_76 hl (by decide) rfl (fun ls hl => ?_)
                                                                                                                    refine lv_aload_n hx hb dX13_feed_78 rfl (lv_at hl 2 rfl) ?_
                                                                                                                    refine va_get (D := D) (ci := 13) (v := .ref (g 0)) (C := RX13) (T := TX13) (N := 68) hx hb hts iG13 hown hK.1 hP 0 rfl rfl 1 (by decide) (hts _ gw1123) (fun _ h9 => h9) rfl dX13_feed_79 ?_
                                                                                                                    refine lv_aload_n hx hb dX13_feed_82 rfl (lv_at hl 2 rfl) ?_
                                                                                                                    refine va_get (D := D) (ci := 13) (v := .int 0) (C := RX13) (T := TX13) (N := 68) hx hb hts iG13 hown hK.1 hP 0 rfl rfl 2 (by decide) (hts _ gw1124) (fun _ h9 => h9) rfl dX13_feed_83 ?_
                                                                                                                    refine lv_iload hx hb dX13_feed_86 (lv_at hl 1 rfl) ?_
                                                                                                                    refine lv_iadd hx hb dX13_feed_88 ?_
                                                                                                                    refine x_ci (y := 15) (by decide) ?_
                                                                                                                    refine lv_iload hx hb dX13_feed_89 (lv_at hl 0 rfl) ?_
                                                                                                                    refine lv_bipush (v := 24) hx hb dX13_feed_91 (by decide) ?_
                                                                                                                    refine lv_bipush (v := 8) hx hb dX13_feed_93 (by decide) ?_
                                                                                                                    refine lv_iload hx hb dX13_feed_95 (lv_at hl 1 rfl) ?_
                                                                                                                    refine lv_iconst (v := 4) hx hb dX13_feed_97 (by decide) ?_
                                                                                                                    refine lv_irem hx hb dX13_feed_98 (by decide) ?_
                                                                                                                    refine x_ci (y := 3) (by decide) ?_
                                                                                                                    refine lv_imul hx hb dX13_feed_99 ?_
                                                                                                                    refine x_ci (y := 24) (by decide) ?_
                                                                                                                    refine lv_isub hx hb dX13_feed_100 ?_
                                                                                                                    refine x_ci (y := 0) (by decide) ?_
                                                                                                                    refine lv_ishr hx hb dX13_feed_101 ?_
                                                                                                                    refine lv_topi (fun z_103 ez_103 => ?_)
                                                                                                                    refine lv_sipush (v := 255) hx hb dX13_feed_102 (by decide) ?_
                                                                                                                    refine lv_iand hx hb dX13_feed_105 ?_
                                                                                                                    refine lv_topi (fun z_104 ez_104 => ?_)
                                                                                                                    refine va_iast hx hb hK.1 hP hD hS 1 1 rfl rfl (show vp_in 15 200 by unfold vp_in; decide) dX13_feed_106 (fun H locs hP hD hS => ?_)
                                                                                                                    obtain ⟨f_105, hP, hD⟩ : ∃ f_105 : Nat → Int32, va_P D vwCl [(z0, .inr (13, xM g 0 0 0)), (g 0, .inl (cy 1, 200, .inl f_105))] H ∧ va_D A [(z0, .inr (13, xM g 0 0 0)), (g 0, .inl (cy 1, 200, .inl f_105))] := ⟨_, hP, hD⟩
                                                                                                                    refine lv_iinc (v := 16) (lv' := [(6, .int 16), (7, .int a4), (0, .ref z0), (1, .int a), (2, .int a2), (3, .int a3), (4, .int a4), (5, .int a5)]) hx hb dX13_feed_107 hl (k := 1) rfl (by decide) (by decide) rfl (fun ls hl => ?_)
                                                                                                                    refine lv_goto (tgt := 23) hx hb dX13_feed_110 (by decide) ?_
                                                                                                                    refine lv_iload hx hb dX13_feed_23 (lv_at hl 0 rfl) ?_
                                                                                                                    refine lv_bipush (v := 20) hx hb dX13_feed_25 (by decide) ?_
                                                                                                                    refine lv_icmp_ge (tgt := 113) hx hb dX13_feed_27 (by decide) (fun c_106 => ?_) (fun c_106 => ?_)
                                                                                                                    · exact absurd c_106 (by decide)
                                                                                                                    · refine lv_iload hx hb dX13_feed_30 (lv_at hl 0 rfl) ?_
                                                                                                                      refine lv_iconst (v := 4) hx hb dX13_feed_32 (by decide) ?_
                                                                                                                      refine lv_icmp_ge (tgt := 40) hx hb dX13_feed_33 (by decide) (fun c_107 => ?_) (fun c_107 => ?_)
                                                                                                                      · refine lv_iload hx hb dX13_feed_40 (lv_at hl 0 rfl) ?_
                                                                                                                        refine lv_bipush (v := 8) hx hb dX13_feed_42 (by decide) ?_
                                                                                                                        refine lv_icmp_ge (tgt := 51) hx hb dX13_feed_44 (by decide) (fun c_108 => ?_) (fun c_108 => ?_)
                                                                                                                        · refine lv_iload hx hb dX13_feed_51 (lv_at hl 0 rfl) ?_
                                                                                                                          refine lv_bipush (v := 12) hx hb dX13_feed_53 (by decide) ?_
                                                                                                                          refine lv_icmp_ge (tgt := 62) hx hb dX13_feed_55 (by decide) (fun c_109 => ?_) (fun c_109 => ?_)
                                                                                                                          · refine lv_iload hx hb dX13_feed_62 (lv_at hl 0 rfl) ?_
                                                                                                                            refine lv_bipush (v := 16) hx hb dX13_feed_64 (by decide) ?_
                                                                                                                            refine lv_icmp_ge (tgt := 74) hx hb dX13_feed_66 (by decide) (fun c_110 => ?_) (fun c_110 => ?_)
                                                                                                                            · refine lv_iload hx hb dX13_feed_74 (lv_at hl 7 rfl) ?_
                                                                                                                              refine lv_istore (lv' := [(7, .int a5), (6, .int 16), (0, .ref z0), (1, .int a), (2, .int a2), (3, .int a3), (4, .int a4), (5, .int a5)]) hx hb dX13_feed_76 hl (by decide) rfl (fun ls hl => ?_)
                                                                                                                              refine lv_aload_n hx hb dX13_feed_78 rfl (lv_at hl 2 rfl) ?_
                                                                                                                              refine va_get (D := D) (ci := 13) (v := .ref (g 0)) (C := RX13) (T := TX13) (N := 68) hx hb hts iG13 hown hK.1 hP 0 rfl rfl 1 (by decide) (hts _ gw1123) (fun _ h9 => h9) rfl dX13_feed_79 ?_
                                                                                                                              refine lv_aload_n hx hb dX13_feed_82 rfl (lv_at hl 2 rfl) ?_
                                                                                                                              refine va_get (D := D) (ci := 13) (v := .int 0) (C := RX13) (T := TX13) (N := 68) hx hb hts iG13 hown hK.1 hP 0 rfl rfl 2 (by decide) (hts _ gw1124) (fun _ h9 => h9) rfl dX13_feed_83 ?_
                                                                                                                              refine lv_iload hx hb dX13_feed_86 (lv_at hl 1 rfl) ?_
                                                                                                                              refine lv_iadd hx hb dX13_feed_88 ?_
                                                                                                                              refine x_ci (y := 16) (by decide) ?_
                                                                                                                              refine lv_iload hx hb dX13_feed_89 (lv_at hl 0 rfl) ?_
                                                                                                                              refine lv_bipush (v := 24) hx hb dX13_feed_91 (by decide) ?_
                                                                                                                              refine lv_bipush (v := 8) hx hb dX13_feed_93 (by decide) ?_
                                                                                                                              refine lv_iload hx hb dX13_feed_95 (lv_at hl 1 rfl) ?_
                                                                                                                              refine lv_iconst (v := 4) hx hb dX13_feed_97 (by decide) ?_
                                                                                                                              refine lv_irem hx hb dX13_feed_98 (by decide) ?_
                                                                                                                              refine x_ci (y := 0) (by decide) ?_
                                                                                                                              refine lv_imul hx hb dX13_feed_99 ?_
                                                                                                                              refine x_ci (y := 0) (by decide) ?_
                                                                                                                              refine lv_isub hx hb dX13_feed_100 ?_
                                                                                                                              refine x_ci (y := 24) (by decide) ?_
                                                                                                                              refine lv_ishr hx hb dX13_feed_101 ?_
                                                                                                                              refine lv_topi (fun z_111 ez_111 => ?_)
                                                                                                                              refine lv_sipush (v := 255) hx hb dX13_feed_102 (by decide) ?_
                                                                                                                              refine lv_iand hx hb dX13_feed_105 ?_
                                                                                                                              refine lv_topi (fun z_112 ez_112 => ?_)
                                                                                                                              refine va_iast hx hb hK.1 hP hD hS 1 1 rfl rfl (show vp_in 16 200 by unfold vp_in; decide) dX13_feed_106 (fun H locs hP hD hS => ?_)
                                                                                                                              obtain ⟨f_113, hP, hD⟩ : ∃ f_113 : Nat → Int32, va_P D vwCl [(z0, .inr (13, xM g 0 0 0)), (g 0, .inl (cy 1, 200, .inl f_113))] H ∧ va_D A [(z0, .inr (13, xM g 0 0 0)), (g 0, .inl (cy 1, 200, .inl f_113))] := ⟨_, hP, hD⟩
                                                                                                                              refine lv_iinc (v := 17) (lv' := [(6, .int 17), (7, .int a5), (0, .ref z0), (1, .int a), (2, .int a2), (3, .int a3), (4, .int a4), (5, .int a5)]) hx hb dX13_feed_107 hl (k := 1) rfl (by decide) (by decide) rfl (fun ls hl => ?_)
                                                                                                                              refine lv_goto (tgt := 23) hx hb dX13_feed_110 (by decide) ?_
                                                                                                                              refine lv_iload hx hb dX13_feed_23 (lv_at hl 0 rfl) ?_
                                                                                                                              refine lv_bipush (v := 20) hx hb dX13_feed_25 (by decide) ?_
                                                                                                                              refine lv_icmp_ge (tgt := 113) hx hb dX13_feed_27 (by decide) (fun c_114 => ?_) (fun c_114 => ?_)
                                                                                                                              · exact absurd c_114 (by decide)
                                                                                                                              · refine lv_iload hx hb dX13_feed_30 (lv_at hl 0 rfl) ?_
                                                                                                                                refine lv_iconst (v := 4) hx hb dX13_feed_32 (by decide) ?_
                                                                                                                                refine lv_icmp_ge (tgt := 40) hx hb dX13_feed_33 (by decide) (fun c_115 => ?_) (fun c_115 => ?_)
                                                                                                                                · refine lv_iload hx hb dX13_feed_40 (lv_at hl 0 rfl) ?_
                                                                                                                                  refine lv_bipush (v := 8) hx hb dX13_feed_42 (by decide) ?_
                                                                                                                                  refine lv_icmp_ge (tgt := 51) hx hb dX13_feed_44 (by decide) (fun c_116 => ?_) (fun c_116 => ?_)
                                                                                                                                  · refine lv_iload hx hb dX13_feed_51 (lv_at hl 0 rfl) ?_
                                                                                                                                    refine lv_bipush (v := 12) hx hb dX13_feed_53 (by decide) ?_
                                                                                                                                    refine lv_icmp_ge (tgt := 62) hx hb dX13_feed_55 (by decide) (fun c_117 => ?_) (fun c_117 => ?_)
                                                                                                                                    · refine lv_iload hx hb dX13_feed_62 (lv_at hl 0 rfl) ?_
                                                                                                                                      refine lv_bipush (v := 16) hx hb dX13_feed_64 (by decide) ?_
                                                                                                                                      refine lv_icmp_ge (tgt := 74) hx hb dX13_feed_66 (by decide) (fun c_118 => ?_) (fun c_118 => ?_)
                                                                                                                                      · refine lv_iload hx hb dX13_feed_74 (lv_at hl 7 rfl) ?_
                                                                                                                                        refine lv_istore (lv' := [(7, .int a5), (6, .int 17), (0, .ref z0), (1, .int a), (2, .int a2), (3, .int a3), (4, .int a4), (5, .int a5)]) hx hb dX13_feed_76 hl (by decide) rfl (fun ls hl => ?_)
                                                                                                                                        refine lv_aload_n hx hb dX13_feed_78 rfl (lv_at hl 2 rfl) ?_
                                                                                                                                        refine va_get (D := D) (ci := 13) (v := .ref (g 0)) (C := RX13) (T := TX13) (N := 68) hx hb hts iG13 hown hK.1 hP 0 rfl rfl 1 (by decide) (hts _ gw1123) (fun _ h9 => h9) rfl dX13_feed_79 ?_
                                                                                                                                        refine lv_aload_n hx hb dX13_feed_82 rfl (lv_at hl 2 rfl) ?_
                                                                                                                                        refine va_get (D := D) (ci := 13) (v := .int 0) (C := RX13) (T := TX13) (N := 68) hx hb hts iG13 hown hK.1 hP 0 rfl rfl 2 (by decide) (hts _ gw1124) (fun _ h9 => h9) rfl dX13_feed_83 ?_
                                                                                                                                        refine lv_iload hx hb dX13_feed_86 (lv_at hl 1 rfl) ?_
                                                                                                                                        refine lv_iadd hx hb dX13_feed_88 ?_
                                                                                                                                        refine x_ci (y := 17) (by decide) ?_
                                                                                                                                        refine lv_iload hx hb dX13_feed_89 (lv_at hl 0 rfl) ?_
                                                                                                                                        refine lv_bipush (v := 24) hx hb dX13_feed_91 (by decide) ?_
                                                                                                                                        refine lv_bipush (v := 8) hx hb dX13_feed_93 (by decide) ?_
                                                                                                                                        refine lv_iload hx hb dX13_feed_95 (lv_at hl 1 rfl) ?_
                                                                                                                                        refine lv_iconst (v := 4) hx hb dX13_feed_97 (by decide) ?_
                                                                                                                                        refine lv_irem hx hb dX13_feed_98 (by decide) ?_
                                                                                                                                        refine x_ci (y := 1) (by decide) ?_
                                                                                                                                        refine lv_imul hx hb dX13_feed_99 ?_
                                                                                                                                        refine x_ci (y := 8) (by decide) ?_
                                                                                                                                        refine lv_isub hx hb dX13_feed_100 ?_
                                                                                                                                        refine x_ci (y := 16) (by decide) ?_
                                                                                                                                        refine lv_ishr hx hb dX13_feed_101 ?_
                                                                                                                                        refine lv_topi (fun z_119 ez_119 => ?_)
                                                                                                                                        refine lv_sipush (v := 255) hx hb dX13_feed_102 (by decide) ?_
                                                                                                                                        refine lv_iand hx hb dX13_feed_105 ?_
                                                                                                                                        refine lv_topi (fun z_120 ez_120 => ?_)
                                                                                                                                        refine va_iast hx hb hK.1 hP hD hS 1 1 rfl rfl (show vp_in 17 200 by unfold vp_in; decide) dX13_feed_106 (fun H locs hP hD hS => ?_)
                                                                                                                                        obtain ⟨f_121, hP, hD⟩ : ∃ f_121 : Nat → Int32, va_P D vwCl [(z0, .inr (13, xM g 0 0 0)), (g 0, .inl (cy 1, 200, .inl f_121))] H ∧ va_D A [(z0, .inr (13, xM g 0 0 0)), (g 0, .inl (cy 1, 200, .inl f_121))] := ⟨_, hP, hD⟩
                                                                                                                                        refine lv_iinc (v := 18) (lv' := [(6, .int 18), (7, .int a5), (0, .ref z0), (1, .int a), (2, .int a2), (3, .int a3), (4, .int a4), (5, .int a5)]) hx hb dX13_feed_107 hl (k := 1) rfl (by decide) (by decide) rfl (fun ls hl => ?_)
                                                                                                                                        refine lv_goto (tgt := 23) hx hb dX13_feed_110 (by decide) ?_
                                                                                                                                        refine lv_iload hx hb dX13_feed_23 (lv_at hl 0 rfl) ?_
                                                                                                                                        refine lv_bipush (v := 20) hx hb dX13_feed_25 (by decide) ?_
                                                                                                                                        refine lv_icmp_ge (tgt := 113) hx hb dX13_feed_27 (by decide) (fun c_122 => ?_) (fun c_122 => ?_)
                                                                                                                                        · exact absurd c_122 (by decide)
                                                                                                                                        · refine lv_iload hx hb dX13_feed_30 (lv_at hl 0 rfl) ?_
                                                                                                                                          refine lv_iconst (v := 4) hx hb dX13_feed_32 (by decide) ?_
                                                                                                                                          refine lv_icmp_ge (tgt := 40) hx hb dX13_feed_33 (by decide) (fun c_123 => ?_) (fun c_123 => ?_)
                                                                                                                                          · refine lv_iload hx hb dX13_feed_40 (lv_at hl 0 rfl) ?_
                                                                                                                                            refine lv_bipush (v := 8) hx hb dX13_feed_42 (by decide) ?_
                                                                                                                                            refine lv_icmp_ge (tgt := 51) hx hb dX13_feed_44 (by decide) (fun c_124 => ?_) (fun c_124 => ?_)
                                                                                                                                            · refine lv_iload hx hb dX13_feed_51 (lv_at hl 0 rfl) ?_
                                                                                                                                              refine lv_bipush (v := 12) hx hb dX13_feed_53 (by decide) ?_
                                                                                                                                              refine lv_icmp_ge (tgt := 62) hx hb dX13_feed_55 (by decide) (fun c_125 => ?_) (fun c_125 => ?_)
                                                                                                                                              · refine lv_iload hx hb dX13_feed_62 (lv_at hl 0 rfl) ?_
                                                                                                                                                refine lv_bipush (v := 16) hx hb dX13_feed_64 (by decide) ?_
                                                                                                                                                refine lv_icmp_ge (tgt := 74) hx hb dX13_feed_66 (by decide) (fun c_126 => ?_) (fun c_126 => ?_)
                                                                                                                                                · refine lv_iload hx hb dX13_feed_74 (lv_at hl 7 rfl) ?_
                                                                                                                                                  refine lv_istore (lv' := [(7, .int a5), (6, .int 18), (0, .ref z0), (1, .int a), (2, .int a2), (3, .int a3), (4, .int a4), (5, .int a5)]) hx hb dX13_feed_76 hl (by decide) rfl (fun ls hl => ?_)
                                                                                                                                                  refine lv_aload_n hx hb dX13_feed_78 rfl (lv_at hl 2 rfl) ?_
                                                                                                                                                  refine va_get (D := D) (ci := 13) (v := .ref (g 0)) (C := RX13) (T := TX13) (N := 68) hx hb hts iG13 hown hK.1 hP 0 rfl rfl 1 (by decide) (hts _ gw1123) (fun _ h9 => h9) rfl dX13_feed_79 ?_
                                                                                                                                                  refine lv_aload_n hx hb dX13_feed_82 rfl (lv_at hl 2 rfl) ?_
                                                                                                                                                  refine va_get (D := D) (ci := 13) (v := .int 0) (C := RX13) (T := TX13) (N := 68) hx hb hts iG13 hown hK.1 hP 0 rfl rfl 2 (by decide) (hts _ gw1124) (fun _ h9 => h9) rfl dX13_feed_83 ?_
                                                                                                                                                  refine lv_iload hx hb dX13_feed_86 (lv_at hl 1 rfl) ?_
                                                                                                                                                  refine lv_iadd hx hb dX13_feed_88 ?_
                                                                                                                                                  refine x_ci (y := 18) (by decide) ?_
                                                                                                                                                  refine lv_iload hx hb dX13_feed_89 (lv_at hl 0 rfl) ?_
                                                                                                                                                  refine lv_bipush (v := 24) hx hb dX13_feed_91 (by decide) ?_
                                                                                                                                                  refine lv_bipush (v := 8) hx hb dX13_feed_93 (by decide) ?_
                                                                                                                                                  refine lv_iload hx hb dX13_feed_95 (lv_at hl 1 rfl) ?_
                                                                                                                                                  refine lv_iconst (v := 4) hx hb dX13_feed_97 (by decide) ?_
                                                                                                                                                  refine lv_irem hx hb dX13_feed_98 (by decide) ?_
                                                                                                                                                  refine x_ci (y := 2) (by decide) ?_
                                                                                                                                                  refine lv_imul hx hb dX13_feed_99 ?_
                                                                                                                                                  refine x_ci (y := 16) (by decide) ?_
                                                                                                                                                  refine lv_isub hx hb dX13_feed_100 ?_
                                                                                                                                                  refine x_ci (y := 8) (by decide) ?_
                                                                                                                                                  refine lv_ishr hx hb dX13_feed_101 ?_
                                                                                                                                                  refine lv_topi (fun z_127 ez_127 => ?_)
                                                                                                                                                  refine lv_sipush (v := 255) hx hb dX13_feed_102 (by decide) ?_
                                                                                                                                                  refine lv_iand hx hb dX13_feed_105 ?_
                                                                                                                                                  refine lv_topi (fun z_128 ez_128 => ?_)
                                                                                                                                                  refine va_iast hx hb hK.1 hP hD hS 1 1 rfl rfl (show vp_in 18 200 by unfold vp_in; decide) dX13_feed_106 (fun H locs hP hD hS => ?_)
                                                                                                                                                  obtain ⟨f_129, hP, hD⟩ : ∃ f_129 : Nat → Int32, va_P D vwCl [(z0, .inr (13, xM g 0 0 0)), (g 0, .inl (cy 1, 200, .inl f_129))] H ∧ va_D A [(z0, .inr (13, xM g 0 0 0)), (g 0, .inl (cy 1, 200, .inl f_129))] := ⟨_, hP, hD⟩
                                                                                                                                                  refine lv_iinc (v := 19) (lv' := [(6, .int 19), (7, .int a5), (0, .ref z0), (1, .int a), (2, .int a2), (3, .int a3), (4, .int a4), (5, .int a5)]) hx hb dX13_feed_107 hl (k := 1) rfl (by decide) (by decide) rfl (fun ls hl => ?_)
                                                                                                                                                  refine lv_goto (tgt := 23) hx hb dX13_feed_110 (by decide) ?_
                                                                                                                                                  refine lv_iload hx hb dX13_feed_23 (lv_at hl 0 rfl) ?_
                                                                                                                                                  refine lv_bipush (v := 20) hx hb dX13_feed_25 (by decide) ?_
                                                                                                                                                  refine lv_icmp_ge (tgt := 113) hx hb dX13_feed_27 (by decide) (fun c_130 => ?_) (fun c_130 => ?_)
                                                                                                                                                  · exact absurd c_130 (by decide)
                                                                                                                                                  · refine lv_iload hx hb dX13_feed_30 (lv_at hl 0 rfl) ?_
                                                                                                                                                    refine lv_iconst (v := 4) hx hb dX13_feed_32 (by decide) ?_
                                                                                                                                                    refine lv_icmp_ge (tgt := 40) hx hb dX13_feed_33 (by decide) (fun c_131 => ?_) (fun c_131 => ?_)
                                                                                                                                                    · refine lv_iload hx hb dX13_feed_40 (lv_at hl 0 rfl) ?_
                                                                                                                                                      refine lv_bipush (v := 8) hx hb dX13_feed_42 (by decide) ?_
                                                                                                                                                      refine lv_icmp_ge (tgt := 51) hx hb dX13_feed_44 (by decide) (fun c_132 => ?_) (fun c_132 => ?_)
                                                                                                                                                      · refine lv_iload hx hb dX13_feed_51 (lv_at hl 0 rfl) ?_
                                                                                                                                                        refine lv_bipush (v := 12) hx hb dX13_feed_53 (by decide) ?_
                                                                                                                                                        refine lv_icmp_ge (tgt := 62) hx hb dX13_feed_55 (by decide) (fun c_133 => ?_) (fun c_133 => ?_)
                                                                                                                                                        · refine lv_iload hx hb dX13_feed_62 (lv_at hl 0 rfl) ?_
                                                                                                                                                          refine lv_bipush (v := 16) hx hb dX13_feed_64 (by decide) ?_
                                                                                                                                                          refine lv_icmp_ge (tgt := 74) hx hb dX13_feed_66 (by decide) (fun c_134 => ?_) (fun c_134 => ?_)
                                                                                                                                                          · refine lv_iload hx hb dX13_feed_74 (lv_at hl 7 rfl) ?_
                                                                                                                                                            refine lv_istore (lv' := [(7, .int a5), (6, .int 19), (0, .ref z0), (1, .int a), (2, .int a2), (3, .int a3), (4, .int a4), (5, .int a5)]) hx hb dX13_feed_76 hl (by decide) rfl (fun ls hl => ?_)
                                                                                                                                                            refine lv_aload_n hx hb dX13_feed_78 rfl (lv_at hl 2 rfl) ?_
                                                                                                                                                            refine va_get (D := D) (ci := 13) (v := .ref (g 0)) (C := RX13) (T := TX13) (N := 68) hx hb hts iG13 hown hK.1 hP 0 rfl rfl 1 (by decide) (hts _ gw1123) (fun _ h9 => h9) rfl dX13_feed_79 ?_
                                                                                                                                                            refine lv_aload_n hx hb dX13_feed_82 rfl (lv_at hl 2 rfl) ?_
                                                                                                                                                            refine va_get (D := D) (ci := 13) (v := .int 0) (C := RX13) (T := TX13) (N := 68) hx hb hts iG13 hown hK.1 hP 0 rfl rfl 2 (by decide) (hts _ gw1124) (fun _ h9 => h9) rfl dX13_feed_83 ?_
                                                                                                                                                            refine lv_iload hx hb dX13_feed_86 (lv_at hl 1 rfl) ?_
                                                                                                                                                            refine lv_iadd hx hb dX13_feed_88 ?_
                                                                                                                                                            refine x_ci (y := 19) (by decide) ?_
                                                                                                                                                            refine lv_iload hx hb dX13_feed_89 (lv_at hl 0 rfl) ?_
                                                                                                                                                            refine lv_bipush (v := 24) hx hb dX13_feed_91 (by decide) ?_
                                                                                                                                                            refine lv_bipush (v := 8) hx hb dX13_feed_93 (by decide) ?_
                                                                                                                                                            refine lv_iload hx hb dX13_feed_95 (lv_at hl 1 rfl) ?_
                                                                                                                                                            refine lv_iconst (v := 4) hx hb dX13_feed_97 (by decide) ?_
                                                                                                                                                            refine lv_irem hx hb dX13_feed_98 (by decide) ?_
                                                                                                                                                            refine x_ci (y := 3) (by decide) ?_
                                                                                                                                                            refine lv_imul hx hb dX13_feed_99 ?_
                                                                                                                                                            refine x_ci (y := 24) (by decide) ?_
                                                                                                                                                            refine lv_isub hx hb dX13_feed_100 ?_
                                                                                                                                                            refine x_ci (y := 0) (by decide) ?_
                                                                                                                                                            refine lv_ishr hx hb dX13_feed_101 ?_
                                                                                                                                                            refine lv_topi (fun z_135 ez_135 => ?_)
                                                                                                                                                            refine lv_sipush (v := 255) hx hb dX13_feed_102 (by decide) ?_
                                                                                                                                                            refine lv_iand hx hb dX13_feed_105 ?_
                                                                                                                                                            refine lv_topi (fun z_136 ez_136 => ?_)
                                                                                                                                                            refine va_iast hx hb hK.1 hP hD hS 1 1 rfl rfl (show vp_in 19 200 by unfold vp_in; decide) dX13_feed_106 (fun H locs hP hD hS => ?_)
                                                                                                                                                            obtain ⟨f_137, hP, hD⟩ : ∃ f_137 : Nat → Int32, va_P D vwCl [(z0, .inr (13, xM g 0 0 0)), (g 0, .inl (cy 1, 200, .inl f_137))] H ∧ va_D A [(z0, .inr (13, xM g 0 0 0)), (g 0, .inl (cy 1, 200, .inl f_137))] := ⟨_, hP, hD⟩
                                                                                                                                                            refine lv_iinc (v := 20) (lv' := [(6, .int 20), (7, .int a5), (0, .ref z0), (1, .int a), (2, .int a2), (3, .int a3), (4, .int a4), (5, .int a5)]) hx hb dX13_feed_107 hl (k := 1) rfl (by decide) (by decide) rfl (fun ls hl => ?_)
                                                                                                                                                            refine lv_goto (tgt := 23) hx hb dX13_feed_110 (by decide) ?_
                                                                                                                                                            refine lv_iload hx hb dX13_feed_23 (lv_at hl 0 rfl) ?_
                                                                                                                                                            refine lv_bipush (v := 20) hx hb dX13_feed_25 (by decide) ?_
                                                                                                                                                            refine lv_icmp_ge (tgt := 113) hx hb dX13_feed_27 (by decide) (fun c_138 => ?_) (fun c_138 => ?_)
                                                                                                                                                            · refine lv_aload_n hx hb dX13_feed_113 rfl (lv_at hl 2 rfl) ?_
                                                                                                                                                              refine lv_dup hx hb dX13_feed_114 rfl ?_
                                                                                                                                                              refine va_get (D := D) (ci := 13) (v := .int 0) (C := RX13) (T := TX13) (N := 68) hx hb hts iG13 hown hK.1 hP 0 rfl rfl 2 (by decide) (hts _ gw1124) (fun _ h9 => h9) rfl dX13_feed_115 ?_
                                                                                                                                                              refine lv_bipush (v := 20) hx hb dX13_feed_118 (by decide) ?_
                                                                                                                                                              refine lv_iadd hx hb dX13_feed_120 ?_
                                                                                                                                                              refine x_ci (y := 20) (by decide) ?_
                                                                                                                                                              refine va_put (D := D) (ci := 13) (v := .int 20) (ty := .int) (C := RX13) (T := TX13) (N := 68) hx hb hts iG13 tyX13 tyX13_ok nmX13 hown hK.1 hP hD hS 0 rfl rfl 2 (by decide) (hts _ gw1124) (fun _ h9 => h9) rfl (by decide +kernel) rfl rfl (Nat.le_of_ble_eq_true rfl) dX13_feed_121 (fun H locs hP hD hS => ?_)
                                                                                                                                                              have hP : va_P D vwCl [(z0, .inr (13, xM g 0 20 0)), (g 0, .inl (cy 1, 200, .inl f_137))] H := hP
                                                                                                                                                              have hD : va_D A [(z0, .inr (13, xM g 0 20 0)), (g 0, .inl (cy 1, 200, .inl f_137))] := hD
                                                                                                                                                              refine lv_aload_n hx hb dX13_feed_124 rfl (lv_at hl 2 rfl) ?_
                                                                                                                                                              refine va_get (D := D) (ci := 13) (v := .int 20) (C := RX13) (T := TX13) (N := 68) hx hb hts iG13 hown hK.1 hP 0 rfl rfl 2 (by decide) (hts _ gw1124) (fun _ h9 => h9) rfl dX13_feed_125 ?_
                                                                                                                                                              have hP9 := hP.sub (ws' := []) [] rfl
                                                                                                                                                              have hD9 := hD.sub (ws' := []) [] (by decide) rfl
                                                                                                                                                              refine W.widen (k := 0) (n := 0) (Nat.le_of_ble_eq_true rfl) (Nat.le_of_ble_eq_true rfl) ?_
                                                                                                                                                              exact W.iret (v := 20) hx hb hr (fun t ht hW => ⟨⟨20, (), rfl, rfl, by rw [ht]; exact hP9, hD9⟩, hS.F ht⟩) hS.2.2 dX13_feed_128
                                                                                                                                                            · exact absurd c_138 (by decide)
                                                                                                                                                          · exact absurd c_134 (by decide)
                                                                                                                                                        · exact absurd c_133 (by decide)
                                                                                                                                                      · exact absurd c_132 (by decide)
                                                                                                                                                    · exact absurd c_131 (by decide)
                                                                                                                                                · exact absurd c_126 (by decide)
                                                                                                                                              · exact absurd c_125 (by decide)
                                                                                                                                            · exact absurd c_124 (by decide)
                                                                                                                                          · exact absurd c_123 (by decide)
                                                                                                                                      · exact absurd c_118 (by decide)
                                                                                                                                    · exact absurd c_117 (by decide)
                                                                                                                                  · exact absurd c_116 (by decide)
                                                                                                                                · exact absurd c_115 (by decide)
                                                                                                                            · exact absurd c_110 (by decide)
                                                                                                                          · exact absurd c_109 (by decide)
                                                                                                                        · exact absurd c_108 (by decide)
                                                                                                                      · exact absurd c_107 (by decide)
                                                                                                                · exact absurd c_101 (by decide)
                                                                                                              · exact absurd c_100 (by decide)
                                                                                                            · exact absurd c_99 (by decide)
                                                                                                      · exact absurd c_93 (by decide)
                                                                                                    · exact absurd c_92 (by decide)
                                                                                                  · exact absurd c_91 (by decide)
                                                                                            · exact absurd c_85 (by decide)
                                                                                          · exact absurd c_84 (by decide)
                                                                                        · exact absurd c_83 (by decide)
                                                                                  · exact absurd c_77 (by decide)
                                                                                · exact absurd c_76 (by decide)
                                                                              · exact absurd c_75 (by decide)
                                                                        · exact absurd c_69 (by decide)
                                                                      · exact absurd c_68 (by decide)
                                                                · exact absurd c_62 (by decide)
                                                              · exact absurd c_61 (by decide)
                                                        · exact absurd c_55 (by decide)
                                                      · exact absurd c_54 (by decide)
                                                · exact absurd c_48 (by decide)
                                              · exact absurd c_47 (by decide)
                                        · exact absurd c_41 (by decide)
                                  · exact absurd c_35 (by decide)
                            · exact absurd c_29 (by decide)
                      · exact absurd c_23 (by decide)
  · exact absurd c_1 (by decide)
set_option maxHeartbeats 4000000 in
set_option maxRecDepth 100000 in
theorem m_split (l : Launch) (D : va_G) (cy : Nat → ClassId) (z0 : Nat) (g : Nat → Nat) (a : Int32) : xMv l D cy yX13_split cX13_split 3 ({ frames := 0, cells := 0, slots := 0, locals := 0 }) [.ref z0, .int a] [(z0, .inr (13, xM g 0 0 0)), (g 3, .inl (cy 1, 8, .inl (fun _ => 0)))] (S := Unit) (fun _ => True) (fun _ => []) := by
  intro sz
  refine Met.ofW (cc := cX13_split) (maxL := 3) (ret := none) (by decide) rfl ?_
  intro p e s m args below meth c s₁ B hml hv
  obtain ⟨rfl, hsz, hP, hK, hD0⟩ := hv
  have hx := B.exec
  have hb := B.bytes
  have hr := B.returns
  have hts0 := atoms_spec (ws := xw yX13_split cX13_split 3 none) B.pre
  have hts : ∀ w ∈ xG, w.before _ s = true := fun w h => hts0 w (List.mem_cons_of_mem _ h)
  have hown : s.vm.findClass RX13 = some m.cls := findClass_of_methodNamed B.named
  have hlocks := B.notSynchronized
  subst hsz
  have hD := hD0.self (sz := s.heap.size)
  generalize hAe : va_A [(z0, .inr (13, xM g 0 0 0)), (g 3, .inl (cy 1, 8, .inl (fun _ => 0)))] s.heap.size = A at hD ⊢
  have hA : ∀ q : Nat, s.heap.size ≤ q → A q := fun q h => by rw [← hAe]; exact Or.inr h
  have hS : va_S A s.heap s.heap [] := va_S.rf
  have hl := lv_entry ([.ref z0, .int a]) (n := 3) (Nat.le_of_ble_eq_true rfl)
  rw [lg_entry_eq]
  generalize (lg_sl ([.ref z0, .int a]) ++ List.replicate (3 - (lg_sl ([.ref z0, .int a])).length) Slot.unset).toArray = ls at hl ⊢
  have hl : lv_has ls 3 [(0, .ref z0), (1, .int a)] := hl
  refine lv_aload_n hx hb dX13_split_0 rfl (lv_at hl 0 rfl) ?_
  refine lv_iconst (v := 0) hx hb dX13_split_1 (by decide) ?_
  refine va_put (D := D) (ci := 13) (v := .int 0) (ty := .int) (C := RX13) (T := TX13) (N := 68) hx hb hts iG13 tyX13 tyX13_ok nmX13 hown hK.1 hP hD hS 0 rfl rfl 3 (by decide) (hts _ gw1125) (fun _ h9 => h9) rfl (by decide +kernel) rfl rfl (Nat.le_of_ble_eq_true rfl) dX13_split_2 (fun H locs hP hD hS => ?_)
  have hP : va_P D vwCl [(z0, .inr (13, xM g 0 0 0)), (g 3, .inl (cy 1, 8, .inl (fun _ => 0)))] H := hP
  have hD : va_D A [(z0, .inr (13, xM g 0 0 0)), (g 3, .inl (cy 1, 8, .inl (fun _ => 0)))] := hD
  refine lv_iconst (v := 0) hx hb dX13_split_5 (by decide) ?_
  refine lv_istore_n (lv' := [(2, .int 0), (0, .ref z0), (1, .int a)]) hx hb dX13_split_6 rfl hl (by decide) rfl (fun ls hl => ?_)
  refine lv_iload_n hx hb dX13_split_7 rfl (lv_at hl 0 rfl) ?_
  refine lv_bipush (v := 8) hx hb dX13_split_8 (by decide) ?_
  refine lv_icmp_ge (tgt := 30) hx hb dX13_split_10 (by decide) (fun c_1 => ?_) (fun c_1 => ?_)
  · exact absurd c_1 (by decide)
  · refine lv_aload_n hx hb dX13_split_13 rfl (lv_at hl 1 rfl) ?_
    refine va_get (D := D) (ci := 13) (v := .ref (g 3)) (C := RX13) (T := TX13) (N := 68) hx hb hts iG13 hown hK.1 hP 0 rfl rfl 6 (by decide) (hts _ gw1128) (fun _ h9 => h9) rfl dX13_split_14 ?_
    refine lv_iload_n hx hb dX13_split_17 rfl (lv_at hl 0 rfl) ?_
    refine lv_iload_n hx hb dX13_split_18 rfl (lv_at hl 2 rfl) ?_
    refine lv_iload_n hx hb dX13_split_19 rfl (lv_at hl 0 rfl) ?_
    refine lv_ishr hx hb dX13_split_20 ?_
    refine lv_topi (fun z_2 ez_2 => ?_)
    refine lv_iconst (v := 1) hx hb dX13_split_21 (by decide) ?_
    refine lv_iand hx hb dX13_split_22 ?_
    refine lv_topi (fun z_3 ez_3 => ?_)
    refine va_iast hx hb hK.1 hP hD hS 1 1 rfl rfl (show vp_in 0 8 by unfold vp_in; decide) dX13_split_23 (fun H locs hP hD hS => ?_)
    obtain ⟨f_4, hP, hD⟩ : ∃ f_4 : Nat → Int32, va_P D vwCl [(z0, .inr (13, xM g 0 0 0)), (g 3, .inl (cy 1, 8, .inl f_4))] H ∧ va_D A [(z0, .inr (13, xM g 0 0 0)), (g 3, .inl (cy 1, 8, .inl f_4))] := ⟨_, hP, hD⟩
    refine lv_iinc (v := 1) (lv' := [(2, .int 1), (0, .ref z0), (1, .int a)]) hx hb dX13_split_24 hl (k := 0) rfl (by decide) (by decide) rfl (fun ls hl => ?_)
    refine lv_goto (tgt := 7) hx hb dX13_split_27 (by decide) ?_
    refine lv_iload_n hx hb dX13_split_7 rfl (lv_at hl 0 rfl) ?_
    refine lv_bipush (v := 8) hx hb dX13_split_8 (by decide) ?_
    refine lv_icmp_ge (tgt := 30) hx hb dX13_split_10 (by decide) (fun c_5 => ?_) (fun c_5 => ?_)
    · exact absurd c_5 (by decide)
    · refine lv_aload_n hx hb dX13_split_13 rfl (lv_at hl 1 rfl) ?_
      refine va_get (D := D) (ci := 13) (v := .ref (g 3)) (C := RX13) (T := TX13) (N := 68) hx hb hts iG13 hown hK.1 hP 0 rfl rfl 6 (by decide) (hts _ gw1128) (fun _ h9 => h9) rfl dX13_split_14 ?_
      refine lv_iload_n hx hb dX13_split_17 rfl (lv_at hl 0 rfl) ?_
      refine lv_iload_n hx hb dX13_split_18 rfl (lv_at hl 2 rfl) ?_
      refine lv_iload_n hx hb dX13_split_19 rfl (lv_at hl 0 rfl) ?_
      refine lv_ishr hx hb dX13_split_20 ?_
      refine lv_topi (fun z_6 ez_6 => ?_)
      refine lv_iconst (v := 1) hx hb dX13_split_21 (by decide) ?_
      refine lv_iand hx hb dX13_split_22 ?_
      refine lv_topi (fun z_7 ez_7 => ?_)
      refine va_iast hx hb hK.1 hP hD hS 1 1 rfl rfl (show vp_in 1 8 by unfold vp_in; decide) dX13_split_23 (fun H locs hP hD hS => ?_)
      obtain ⟨f_8, hP, hD⟩ : ∃ f_8 : Nat → Int32, va_P D vwCl [(z0, .inr (13, xM g 0 0 0)), (g 3, .inl (cy 1, 8, .inl f_8))] H ∧ va_D A [(z0, .inr (13, xM g 0 0 0)), (g 3, .inl (cy 1, 8, .inl f_8))] := ⟨_, hP, hD⟩
      refine lv_iinc (v := 2) (lv' := [(2, .int 2), (0, .ref z0), (1, .int a)]) hx hb dX13_split_24 hl (k := 0) rfl (by decide) (by decide) rfl (fun ls hl => ?_)
      refine lv_goto (tgt := 7) hx hb dX13_split_27 (by decide) ?_
      refine lv_iload_n hx hb dX13_split_7 rfl (lv_at hl 0 rfl) ?_
      refine lv_bipush (v := 8) hx hb dX13_split_8 (by decide) ?_
      refine lv_icmp_ge (tgt := 30) hx hb dX13_split_10 (by decide) (fun c_9 => ?_) (fun c_9 => ?_)
      · exact absurd c_9 (by decide)
      · refine lv_aload_n hx hb dX13_split_13 rfl (lv_at hl 1 rfl) ?_
        refine va_get (D := D) (ci := 13) (v := .ref (g 3)) (C := RX13) (T := TX13) (N := 68) hx hb hts iG13 hown hK.1 hP 0 rfl rfl 6 (by decide) (hts _ gw1128) (fun _ h9 => h9) rfl dX13_split_14 ?_
        refine lv_iload_n hx hb dX13_split_17 rfl (lv_at hl 0 rfl) ?_
        refine lv_iload_n hx hb dX13_split_18 rfl (lv_at hl 2 rfl) ?_
        refine lv_iload_n hx hb dX13_split_19 rfl (lv_at hl 0 rfl) ?_
        refine lv_ishr hx hb dX13_split_20 ?_
        refine lv_topi (fun z_10 ez_10 => ?_)
        refine lv_iconst (v := 1) hx hb dX13_split_21 (by decide) ?_
        refine lv_iand hx hb dX13_split_22 ?_
        refine lv_topi (fun z_11 ez_11 => ?_)
        refine va_iast hx hb hK.1 hP hD hS 1 1 rfl rfl (show vp_in 2 8 by unfold vp_in; decide) dX13_split_23 (fun H locs hP hD hS => ?_)
        obtain ⟨f_12, hP, hD⟩ : ∃ f_12 : Nat → Int32, va_P D vwCl [(z0, .inr (13, xM g 0 0 0)), (g 3, .inl (cy 1, 8, .inl f_12))] H ∧ va_D A [(z0, .inr (13, xM g 0 0 0)), (g 3, .inl (cy 1, 8, .inl f_12))] := ⟨_, hP, hD⟩
        refine lv_iinc (v := 3) (lv' := [(2, .int 3), (0, .ref z0), (1, .int a)]) hx hb dX13_split_24 hl (k := 0) rfl (by decide) (by decide) rfl (fun ls hl => ?_)
        refine lv_goto (tgt := 7) hx hb dX13_split_27 (by decide) ?_
        refine lv_iload_n hx hb dX13_split_7 rfl (lv_at hl 0 rfl) ?_
        refine lv_bipush (v := 8) hx hb dX13_split_8 (by decide) ?_
        refine lv_icmp_ge (tgt := 30) hx hb dX13_split_10 (by decide) (fun c_13 => ?_) (fun c_13 => ?_)
        · exact absurd c_13 (by decide)
        · refine lv_aload_n hx hb dX13_split_13 rfl (lv_at hl 1 rfl) ?_
          refine va_get (D := D) (ci := 13) (v := .ref (g 3)) (C := RX13) (T := TX13) (N := 68) hx hb hts iG13 hown hK.1 hP 0 rfl rfl 6 (by decide) (hts _ gw1128) (fun _ h9 => h9) rfl dX13_split_14 ?_
          refine lv_iload_n hx hb dX13_split_17 rfl (lv_at hl 0 rfl) ?_
          refine lv_iload_n hx hb dX13_split_18 rfl (lv_at hl 2 rfl) ?_
          refine lv_iload_n hx hb dX13_split_19 rfl (lv_at hl 0 rfl) ?_
          refine lv_ishr hx hb dX13_split_20 ?_
          refine lv_topi (fun z_14 ez_14 => ?_)
          refine lv_iconst (v := 1) hx hb dX13_split_21 (by decide) ?_
          refine lv_iand hx hb dX13_split_22 ?_
          refine lv_topi (fun z_15 ez_15 => ?_)
          refine va_iast hx hb hK.1 hP hD hS 1 1 rfl rfl (show vp_in 3 8 by unfold vp_in; decide) dX13_split_23 (fun H locs hP hD hS => ?_)
          obtain ⟨f_16, hP, hD⟩ : ∃ f_16 : Nat → Int32, va_P D vwCl [(z0, .inr (13, xM g 0 0 0)), (g 3, .inl (cy 1, 8, .inl f_16))] H ∧ va_D A [(z0, .inr (13, xM g 0 0 0)), (g 3, .inl (cy 1, 8, .inl f_16))] := ⟨_, hP, hD⟩
          refine lv_iinc (v := 4) (lv' := [(2, .int 4), (0, .ref z0), (1, .int a)]) hx hb dX13_split_24 hl (k := 0) rfl (by decide) (by decide) rfl (fun ls hl => ?_)
          refine lv_goto (tgt := 7) hx hb dX13_split_27 (by decide) ?_
          refine lv_iload_n hx hb dX13_split_7 rfl (lv_at hl 0 rfl) ?_
          refine lv_bipush (v := 8) hx hb dX13_split_8 (by decide) ?_
          refine lv_icmp_ge (tgt := 30) hx hb dX13_split_10 (by decide) (fun c_17 => ?_) (fun c_17 => ?_)
          · exact absurd c_17 (by decide)
          · refine lv_aload_n hx hb dX13_split_13 rfl (lv_at hl 1 rfl) ?_
            refine va_get (D := D) (ci := 13) (v := .ref (g 3)) (C := RX13) (T := TX13) (N := 68) hx hb hts iG13 hown hK.1 hP 0 rfl rfl 6 (by decide) (hts _ gw1128) (fun _ h9 => h9) rfl dX13_split_14 ?_
            refine lv_iload_n hx hb dX13_split_17 rfl (lv_at hl 0 rfl) ?_
            refine lv_iload_n hx hb dX13_split_18 rfl (lv_at hl 2 rfl) ?_
            refine lv_iload_n hx hb dX13_split_19 rfl (lv_at hl 0 rfl) ?_
            refine lv_ishr hx hb dX13_split_20 ?_
            refine lv_topi (fun z_18 ez_18 => ?_)
            refine lv_iconst (v := 1) hx hb dX13_split_21 (by decide) ?_
            refine lv_iand hx hb dX13_split_22 ?_
            refine lv_topi (fun z_19 ez_19 => ?_)
            refine va_iast hx hb hK.1 hP hD hS 1 1 rfl rfl (show vp_in 4 8 by unfold vp_in; decide) dX13_split_23 (fun H locs hP hD hS => ?_)
            obtain ⟨f_20, hP, hD⟩ : ∃ f_20 : Nat → Int32, va_P D vwCl [(z0, .inr (13, xM g 0 0 0)), (g 3, .inl (cy 1, 8, .inl f_20))] H ∧ va_D A [(z0, .inr (13, xM g 0 0 0)), (g 3, .inl (cy 1, 8, .inl f_20))] := ⟨_, hP, hD⟩
            refine lv_iinc (v := 5) (lv' := [(2, .int 5), (0, .ref z0), (1, .int a)]) hx hb dX13_split_24 hl (k := 0) rfl (by decide) (by decide) rfl (fun ls hl => ?_)
            refine lv_goto (tgt := 7) hx hb dX13_split_27 (by decide) ?_
            refine lv_iload_n hx hb dX13_split_7 rfl (lv_at hl 0 rfl) ?_
            refine lv_bipush (v := 8) hx hb dX13_split_8 (by decide) ?_
            refine lv_icmp_ge (tgt := 30) hx hb dX13_split_10 (by decide) (fun c_21 => ?_) (fun c_21 => ?_)
            · exact absurd c_21 (by decide)
            · refine lv_aload_n hx hb dX13_split_13 rfl (lv_at hl 1 rfl) ?_
              refine va_get (D := D) (ci := 13) (v := .ref (g 3)) (C := RX13) (T := TX13) (N := 68) hx hb hts iG13 hown hK.1 hP 0 rfl rfl 6 (by decide) (hts _ gw1128) (fun _ h9 => h9) rfl dX13_split_14 ?_
              refine lv_iload_n hx hb dX13_split_17 rfl (lv_at hl 0 rfl) ?_
              refine lv_iload_n hx hb dX13_split_18 rfl (lv_at hl 2 rfl) ?_
              refine lv_iload_n hx hb dX13_split_19 rfl (lv_at hl 0 rfl) ?_
              refine lv_ishr hx hb dX13_split_20 ?_
              refine lv_topi (fun z_22 ez_22 => ?_)
              refine lv_iconst (v := 1) hx hb dX13_split_21 (by decide) ?_
              refine lv_iand hx hb dX13_split_22 ?_
              refine lv_topi (fun z_23 ez_23 => ?_)
              refine va_iast hx hb hK.1 hP hD hS 1 1 rfl rfl (show vp_in 5 8 by unfold vp_in; decide) dX13_split_23 (fun H locs hP hD hS => ?_)
              obtain ⟨f_24, hP, hD⟩ : ∃ f_24 : Nat → Int32, va_P D vwCl [(z0, .inr (13, xM g 0 0 0)), (g 3, .inl (cy 1, 8, .inl f_24))] H ∧ va_D A [(z0, .inr (13, xM g 0 0 0)), (g 3, .inl (cy 1, 8, .inl f_24))] := ⟨_, hP, hD⟩
              refine lv_iinc (v := 6) (lv' := [(2, .int 6), (0, .ref z0), (1, .int a)]) hx hb dX13_split_24 hl (k := 0) rfl (by decide) (by decide) rfl (fun ls hl => ?_)
              refine lv_goto (tgt := 7) hx hb dX13_split_27 (by decide) ?_
              refine lv_iload_n hx hb dX13_split_7 rfl (lv_at hl 0 rfl) ?_
              refine lv_bipush (v := 8) hx hb dX13_split_8 (by decide) ?_
              refine lv_icmp_ge (tgt := 30) hx hb dX13_split_10 (by decide) (fun c_25 => ?_) (fun c_25 => ?_)
              · exact absurd c_25 (by decide)
              · refine lv_aload_n hx hb dX13_split_13 rfl (lv_at hl 1 rfl) ?_
                refine va_get (D := D) (ci := 13) (v := .ref (g 3)) (C := RX13) (T := TX13) (N := 68) hx hb hts iG13 hown hK.1 hP 0 rfl rfl 6 (by decide) (hts _ gw1128) (fun _ h9 => h9) rfl dX13_split_14 ?_
                refine lv_iload_n hx hb dX13_split_17 rfl (lv_at hl 0 rfl) ?_
                refine lv_iload_n hx hb dX13_split_18 rfl (lv_at hl 2 rfl) ?_
                refine lv_iload_n hx hb dX13_split_19 rfl (lv_at hl 0 rfl) ?_
                refine lv_ishr hx hb dX13_split_20 ?_
                refine lv_topi (fun z_26 ez_26 => ?_)
                refine lv_iconst (v := 1) hx hb dX13_split_21 (by decide) ?_
                refine lv_iand hx hb dX13_split_22 ?_
                refine lv_topi (fun z_27 ez_27 => ?_)
                refine va_iast hx hb hK.1 hP hD hS 1 1 rfl rfl (show vp_in 6 8 by unfold vp_in; decide) dX13_split_23 (fun H locs hP hD hS => ?_)
                obtain ⟨f_28, hP, hD⟩ : ∃ f_28 : Nat → Int32, va_P D vwCl [(z0, .inr (13, xM g 0 0 0)), (g 3, .inl (cy 1, 8, .inl f_28))] H ∧ va_D A [(z0, .inr (13, xM g 0 0 0)), (g 3, .inl (cy 1, 8, .inl f_28))] := ⟨_, hP, hD⟩
                refine lv_iinc (v := 7) (lv' := [(2, .int 7), (0, .ref z0), (1, .int a)]) hx hb dX13_split_24 hl (k := 0) rfl (by decide) (by decide) rfl (fun ls hl => ?_)
                refine lv_goto (tgt := 7) hx hb dX13_split_27 (by decide) ?_
                refine lv_iload_n hx hb dX13_split_7 rfl (lv_at hl 0 rfl) ?_
                refine lv_bipush (v := 8) hx hb dX13_split_8 (by decide) ?_
                refine lv_icmp_ge (tgt := 30) hx hb dX13_split_10 (by decide) (fun c_29 => ?_) (fun c_29 => ?_)
                · exact absurd c_29 (by decide)
                · refine lv_aload_n hx hb dX13_split_13 rfl (lv_at hl 1 rfl) ?_
                  refine va_get (D := D) (ci := 13) (v := .ref (g 3)) (C := RX13) (T := TX13) (N := 68) hx hb hts iG13 hown hK.1 hP 0 rfl rfl 6 (by decide) (hts _ gw1128) (fun _ h9 => h9) rfl dX13_split_14 ?_
                  refine lv_iload_n hx hb dX13_split_17 rfl (lv_at hl 0 rfl) ?_
                  refine lv_iload_n hx hb dX13_split_18 rfl (lv_at hl 2 rfl) ?_
                  refine lv_iload_n hx hb dX13_split_19 rfl (lv_at hl 0 rfl) ?_
                  refine lv_ishr hx hb dX13_split_20 ?_
                  refine lv_topi (fun z_30 ez_30 => ?_)
                  refine lv_iconst (v := 1) hx hb dX13_split_21 (by decide) ?_
                  refine lv_iand hx hb dX13_split_22 ?_
                  refine lv_topi (fun z_31 ez_31 => ?_)
                  refine va_iast hx hb hK.1 hP hD hS 1 1 rfl rfl (show vp_in 7 8 by unfold vp_in; decide) dX13_split_23 (fun H locs hP hD hS => ?_)
                  obtain ⟨f_32, hP, hD⟩ : ∃ f_32 : Nat → Int32, va_P D vwCl [(z0, .inr (13, xM g 0 0 0)), (g 3, .inl (cy 1, 8, .inl f_32))] H ∧ va_D A [(z0, .inr (13, xM g 0 0 0)), (g 3, .inl (cy 1, 8, .inl f_32))] := ⟨_, hP, hD⟩
                  refine lv_iinc (v := 8) (lv' := [(2, .int 8), (0, .ref z0), (1, .int a)]) hx hb dX13_split_24 hl (k := 0) rfl (by decide) (by decide) rfl (fun ls hl => ?_)
                  refine lv_goto (tgt := 7) hx hb dX13_split_27 (by decide) ?_
                  refine lv_iload_n hx hb dX13_split_7 rfl (lv_at hl 0 rfl) ?_
                  refine lv_bipush (v := 8) hx hb dX13_split_8 (by decide) ?_
                  refine lv_icmp_ge (tgt := 30) hx hb dX13_split_10 (by decide) (fun c_33 => ?_) (fun c_33 => ?_)
                  · have hP9 := hP.sub (ws' := []) [] rfl
                    have hD9 := hD.sub (ws' := []) [] (by decide) rfl
                    refine W.widen (k := 0) (n := 0) (Nat.le_of_ble_eq_true rfl) (Nat.le_of_ble_eq_true rfl) ?_
                    exact W.vret hx hb hr (fun t ht hW => ⟨⟨(), rfl, trivial, by rw [ht]; exact hP9, hD9⟩, hS.F ht⟩) hS.2.2 dX13_split_30
                  · exact absurd c_33 (by decide)
set_option maxHeartbeats 4000000 in
set_option maxRecDepth 100000 in
theorem m_join (l : Launch) (D : va_G) (cy : Nat → ClassId) (z0 : Nat) (g : Nat → Nat) : xMv l D cy yX13_join cX13_join 2 ({ frames := 0, cells := 0, slots := 0, locals := 0 }) [.ref z0] [(z0, .inr (13, xM g 0 0 0)), (g 1, .inl (cy 3, 8, .inl (fun _ => 0))), (g 3, .inl (cy 1, 8, .inl (fun _ => 0)))] (S := Unit) (fun _ => True) (fun _ => []) := by
  intro sz
  refine Met.ofW (cc := cX13_join) (maxL := 2) (ret := none) (by decide) rfl ?_
  intro p e s m args below meth c s₁ B hml hv
  obtain ⟨rfl, hsz, hP, hK, hD0⟩ := hv
  have hx := B.exec
  have hb := B.bytes
  have hr := B.returns
  have hts0 := atoms_spec (ws := xw yX13_join cX13_join 2 none) B.pre
  have hts : ∀ w ∈ xG, w.before _ s = true := fun w h => hts0 w (List.mem_cons_of_mem _ h)
  have hown : s.vm.findClass RX13 = some m.cls := findClass_of_methodNamed B.named
  have hlocks := B.notSynchronized
  subst hsz
  have hD := hD0.self (sz := s.heap.size)
  generalize hAe : va_A [(z0, .inr (13, xM g 0 0 0)), (g 1, .inl (cy 3, 8, .inl (fun _ => 0))), (g 3, .inl (cy 1, 8, .inl (fun _ => 0)))] s.heap.size = A at hD ⊢
  have hA : ∀ q : Nat, s.heap.size ≤ q → A q := fun q h => by rw [← hAe]; exact Or.inr h
  have hS : va_S A s.heap s.heap [] := va_S.rf
  have hl := lv_entry ([.ref z0]) (n := 2) (Nat.le_of_ble_eq_true rfl)
  rw [lg_entry_eq]
  generalize (lg_sl ([.ref z0]) ++ List.replicate (2 - (lg_sl ([.ref z0])).length) Slot.unset).toArray = ls at hl ⊢
  have hl : lv_has ls 2 [(0, .ref z0)] := hl
  refine lv_aload_n hx hb dX13_join_0 rfl (lv_at hl 0 rfl) ?_
  refine lv_iconst (v := 0) hx hb dX13_join_1 (by decide) ?_
  refine va_put (D := D) (ci := 13) (v := .int 0) (ty := .int) (C := RX13) (T := TX13) (N := 68) hx hb hts iG13 tyX13 tyX13_ok nmX13 hown hK.1 hP hD hS 0 rfl rfl 3 (by decide) (hts _ gw1125) (fun _ h9 => h9) rfl (by decide +kernel) rfl rfl (Nat.le_of_ble_eq_true rfl) dX13_join_2 (fun H locs hP hD hS => ?_)
  have hP : va_P D vwCl [(z0, .inr (13, xM g 0 0 0)), (g 1, .inl (cy 3, 8, .inl (fun _ => 0))), (g 3, .inl (cy 1, 8, .inl (fun _ => 0)))] H := hP
  have hD : va_D A [(z0, .inr (13, xM g 0 0 0)), (g 1, .inl (cy 3, 8, .inl (fun _ => 0))), (g 3, .inl (cy 1, 8, .inl (fun _ => 0)))] := hD
  refine lv_iconst (v := 0) hx hb dX13_join_5 (by decide) ?_
  refine lv_istore_n (lv' := [(1, .int 0), (0, .ref z0)]) hx hb dX13_join_6 rfl hl (by decide) rfl (fun ls hl => ?_)
  refine lv_iload_n hx hb dX13_join_7 rfl (lv_at hl 0 rfl) ?_
  refine lv_bipush (v := 8) hx hb dX13_join_8 (by decide) ?_
  refine lv_icmp_ge (tgt := 123) hx hb dX13_join_10 (by decide) (fun c_1 => ?_) (fun c_1 => ?_)
  · exact absurd c_1 (by decide)
  · refine lv_aload_n hx hb dX13_join_13 rfl (lv_at hl 1 rfl) ?_
    refine va_get (D := D) (ci := 13) (v := .ref (g 3)) (C := RX13) (T := TX13) (N := 68) hx hb hts iG13 hown hK.1 hP 0 rfl rfl 6 (by decide) (hts _ gw1128) (fun _ h9 => h9) rfl dX13_join_14 ?_
    refine lv_iload_n hx hb dX13_join_17 rfl (lv_at hl 0 rfl) ?_
    refine lv_iconst (v := 0) hx hb dX13_join_18 (by decide) ?_
    refine va_iast hx hb hK.1 hP hD hS 2 1 rfl rfl (show vp_in 0 8 by unfold vp_in; decide) dX13_join_19 (fun H locs hP hD hS => ?_)
    obtain ⟨f_2, hP, hD⟩ : ∃ f_2 : Nat → Int32, va_P D vwCl [(z0, .inr (13, xM g 0 0 0)), (g 1, .inl (cy 3, 8, .inl (fun _ => 0))), (g 3, .inl (cy 1, 8, .inl f_2))] H ∧ va_D A [(z0, .inr (13, xM g 0 0 0)), (g 1, .inl (cy 3, 8, .inl (fun _ => 0))), (g 3, .inl (cy 1, 8, .inl f_2))] := ⟨_, hP, hD⟩
    refine lv_aload_n hx hb dX13_join_20 rfl (lv_at hl 1 rfl) ?_
    refine va_get (D := D) (ci := 13) (v := .ref (g 1)) (C := RX13) (T := TX13) (N := 68) hx hb hts iG13 hown hK.1 hP 0 rfl rfl 4 (by decide) (hts _ gw1126) (fun _ h9 => h9) rfl dX13_join_21 ?_
    refine lv_iload_n hx hb dX13_join_24 rfl (lv_at hl 0 rfl) ?_
    refine va_zald hx hb hK.1 hP 1 3 rfl rfl (show vp_in 0 8 by unfold vp_in; decide) dX13_join_25 ?_
    refine lv_if_ne (tgt := 32) hx hb dX13_join_26 (by decide) (fun c_3 => ?_) (fun c_3 => ?_)
    · exact absurd c_3 (by decide)
    · refine lv_goto (tgt := 117) hx hb dX13_join_29 (by decide) ?_
      refine lv_iinc (v := 1) (lv' := [(1, .int 1), (0, .ref z0)]) hx hb dX13_join_117 hl (k := 0) rfl (by decide) (by decide) rfl (fun ls hl => ?_)
      refine lv_goto (tgt := 7) hx hb dX13_join_120 (by decide) ?_
      refine lv_iload_n hx hb dX13_join_7 rfl (lv_at hl 0 rfl) ?_
      refine lv_bipush (v := 8) hx hb dX13_join_8 (by decide) ?_
      refine lv_icmp_ge (tgt := 123) hx hb dX13_join_10 (by decide) (fun c_4 => ?_) (fun c_4 => ?_)
      · exact absurd c_4 (by decide)
      · refine lv_aload_n hx hb dX13_join_13 rfl (lv_at hl 1 rfl) ?_
        refine va_get (D := D) (ci := 13) (v := .ref (g 3)) (C := RX13) (T := TX13) (N := 68) hx hb hts iG13 hown hK.1 hP 0 rfl rfl 6 (by decide) (hts _ gw1128) (fun _ h9 => h9) rfl dX13_join_14 ?_
        refine lv_iload_n hx hb dX13_join_17 rfl (lv_at hl 0 rfl) ?_
        refine lv_iconst (v := 0) hx hb dX13_join_18 (by decide) ?_
        refine va_iast hx hb hK.1 hP hD hS 2 1 rfl rfl (show vp_in 1 8 by unfold vp_in; decide) dX13_join_19 (fun H locs hP hD hS => ?_)
        obtain ⟨f_5, hP, hD⟩ : ∃ f_5 : Nat → Int32, va_P D vwCl [(z0, .inr (13, xM g 0 0 0)), (g 1, .inl (cy 3, 8, .inl (fun _ => 0))), (g 3, .inl (cy 1, 8, .inl f_5))] H ∧ va_D A [(z0, .inr (13, xM g 0 0 0)), (g 1, .inl (cy 3, 8, .inl (fun _ => 0))), (g 3, .inl (cy 1, 8, .inl f_5))] := ⟨_, hP, hD⟩
        refine lv_aload_n hx hb dX13_join_20 rfl (lv_at hl 1 rfl) ?_
        refine va_get (D := D) (ci := 13) (v := .ref (g 1)) (C := RX13) (T := TX13) (N := 68) hx hb hts iG13 hown hK.1 hP 0 rfl rfl 4 (by decide) (hts _ gw1126) (fun _ h9 => h9) rfl dX13_join_21 ?_
        refine lv_iload_n hx hb dX13_join_24 rfl (lv_at hl 0 rfl) ?_
        refine va_zald hx hb hK.1 hP 1 3 rfl rfl (show vp_in 1 8 by unfold vp_in; decide) dX13_join_25 ?_
        refine lv_if_ne (tgt := 32) hx hb dX13_join_26 (by decide) (fun c_6 => ?_) (fun c_6 => ?_)
        · exact absurd c_6 (by decide)
        · refine lv_goto (tgt := 117) hx hb dX13_join_29 (by decide) ?_
          refine lv_iinc (v := 2) (lv' := [(1, .int 2), (0, .ref z0)]) hx hb dX13_join_117 hl (k := 0) rfl (by decide) (by decide) rfl (fun ls hl => ?_)
          refine lv_goto (tgt := 7) hx hb dX13_join_120 (by decide) ?_
          refine lv_iload_n hx hb dX13_join_7 rfl (lv_at hl 0 rfl) ?_
          refine lv_bipush (v := 8) hx hb dX13_join_8 (by decide) ?_
          refine lv_icmp_ge (tgt := 123) hx hb dX13_join_10 (by decide) (fun c_7 => ?_) (fun c_7 => ?_)
          · exact absurd c_7 (by decide)
          · refine lv_aload_n hx hb dX13_join_13 rfl (lv_at hl 1 rfl) ?_
            refine va_get (D := D) (ci := 13) (v := .ref (g 3)) (C := RX13) (T := TX13) (N := 68) hx hb hts iG13 hown hK.1 hP 0 rfl rfl 6 (by decide) (hts _ gw1128) (fun _ h9 => h9) rfl dX13_join_14 ?_
            refine lv_iload_n hx hb dX13_join_17 rfl (lv_at hl 0 rfl) ?_
            refine lv_iconst (v := 0) hx hb dX13_join_18 (by decide) ?_
            refine va_iast hx hb hK.1 hP hD hS 2 1 rfl rfl (show vp_in 2 8 by unfold vp_in; decide) dX13_join_19 (fun H locs hP hD hS => ?_)
            obtain ⟨f_8, hP, hD⟩ : ∃ f_8 : Nat → Int32, va_P D vwCl [(z0, .inr (13, xM g 0 0 0)), (g 1, .inl (cy 3, 8, .inl (fun _ => 0))), (g 3, .inl (cy 1, 8, .inl f_8))] H ∧ va_D A [(z0, .inr (13, xM g 0 0 0)), (g 1, .inl (cy 3, 8, .inl (fun _ => 0))), (g 3, .inl (cy 1, 8, .inl f_8))] := ⟨_, hP, hD⟩
            refine lv_aload_n hx hb dX13_join_20 rfl (lv_at hl 1 rfl) ?_
            refine va_get (D := D) (ci := 13) (v := .ref (g 1)) (C := RX13) (T := TX13) (N := 68) hx hb hts iG13 hown hK.1 hP 0 rfl rfl 4 (by decide) (hts _ gw1126) (fun _ h9 => h9) rfl dX13_join_21 ?_
            refine lv_iload_n hx hb dX13_join_24 rfl (lv_at hl 0 rfl) ?_
            refine va_zald hx hb hK.1 hP 1 3 rfl rfl (show vp_in 2 8 by unfold vp_in; decide) dX13_join_25 ?_
            refine lv_if_ne (tgt := 32) hx hb dX13_join_26 (by decide) (fun c_9 => ?_) (fun c_9 => ?_)
            · exact absurd c_9 (by decide)
            · refine lv_goto (tgt := 117) hx hb dX13_join_29 (by decide) ?_
              refine lv_iinc (v := 3) (lv' := [(1, .int 3), (0, .ref z0)]) hx hb dX13_join_117 hl (k := 0) rfl (by decide) (by decide) rfl (fun ls hl => ?_)
              refine lv_goto (tgt := 7) hx hb dX13_join_120 (by decide) ?_
              refine lv_iload_n hx hb dX13_join_7 rfl (lv_at hl 0 rfl) ?_
              refine lv_bipush (v := 8) hx hb dX13_join_8 (by decide) ?_
              refine lv_icmp_ge (tgt := 123) hx hb dX13_join_10 (by decide) (fun c_10 => ?_) (fun c_10 => ?_)
              · exact absurd c_10 (by decide)
              · refine lv_aload_n hx hb dX13_join_13 rfl (lv_at hl 1 rfl) ?_
                refine va_get (D := D) (ci := 13) (v := .ref (g 3)) (C := RX13) (T := TX13) (N := 68) hx hb hts iG13 hown hK.1 hP 0 rfl rfl 6 (by decide) (hts _ gw1128) (fun _ h9 => h9) rfl dX13_join_14 ?_
                refine lv_iload_n hx hb dX13_join_17 rfl (lv_at hl 0 rfl) ?_
                refine lv_iconst (v := 0) hx hb dX13_join_18 (by decide) ?_
                refine va_iast hx hb hK.1 hP hD hS 2 1 rfl rfl (show vp_in 3 8 by unfold vp_in; decide) dX13_join_19 (fun H locs hP hD hS => ?_)
                obtain ⟨f_11, hP, hD⟩ : ∃ f_11 : Nat → Int32, va_P D vwCl [(z0, .inr (13, xM g 0 0 0)), (g 1, .inl (cy 3, 8, .inl (fun _ => 0))), (g 3, .inl (cy 1, 8, .inl f_11))] H ∧ va_D A [(z0, .inr (13, xM g 0 0 0)), (g 1, .inl (cy 3, 8, .inl (fun _ => 0))), (g 3, .inl (cy 1, 8, .inl f_11))] := ⟨_, hP, hD⟩
                refine lv_aload_n hx hb dX13_join_20 rfl (lv_at hl 1 rfl) ?_
                refine va_get (D := D) (ci := 13) (v := .ref (g 1)) (C := RX13) (T := TX13) (N := 68) hx hb hts iG13 hown hK.1 hP 0 rfl rfl 4 (by decide) (hts _ gw1126) (fun _ h9 => h9) rfl dX13_join_21 ?_
                refine lv_iload_n hx hb dX13_join_24 rfl (lv_at hl 0 rfl) ?_
                refine va_zald hx hb hK.1 hP 1 3 rfl rfl (show vp_in 3 8 by unfold vp_in; decide) dX13_join_25 ?_
                refine lv_if_ne (tgt := 32) hx hb dX13_join_26 (by decide) (fun c_12 => ?_) (fun c_12 => ?_)
                · exact absurd c_12 (by decide)
                · refine lv_goto (tgt := 117) hx hb dX13_join_29 (by decide) ?_
                  refine lv_iinc (v := 4) (lv' := [(1, .int 4), (0, .ref z0)]) hx hb dX13_join_117 hl (k := 0) rfl (by decide) (by decide) rfl (fun ls hl => ?_)
                  refine lv_goto (tgt := 7) hx hb dX13_join_120 (by decide) ?_
                  refine lv_iload_n hx hb dX13_join_7 rfl (lv_at hl 0 rfl) ?_
                  refine lv_bipush (v := 8) hx hb dX13_join_8 (by decide) ?_
                  refine lv_icmp_ge (tgt := 123) hx hb dX13_join_10 (by decide) (fun c_13 => ?_) (fun c_13 => ?_)
                  · exact absurd c_13 (by decide)
                  · refine lv_aload_n hx hb dX13_join_13 rfl (lv_at hl 1 rfl) ?_
                    refine va_get (D := D) (ci := 13) (v := .ref (g 3)) (C := RX13) (T := TX13) (N := 68) hx hb hts iG13 hown hK.1 hP 0 rfl rfl 6 (by decide) (hts _ gw1128) (fun _ h9 => h9) rfl dX13_join_14 ?_
                    refine lv_iload_n hx hb dX13_join_17 rfl (lv_at hl 0 rfl) ?_
                    refine lv_iconst (v := 0) hx hb dX13_join_18 (by decide) ?_
                    refine va_iast hx hb hK.1 hP hD hS 2 1 rfl rfl (show vp_in 4 8 by unfold vp_in; decide) dX13_join_19 (fun H locs hP hD hS => ?_)
                    obtain ⟨f_14, hP, hD⟩ : ∃ f_14 : Nat → Int32, va_P D vwCl [(z0, .inr (13, xM g 0 0 0)), (g 1, .inl (cy 3, 8, .inl (fun _ => 0))), (g 3, .inl (cy 1, 8, .inl f_14))] H ∧ va_D A [(z0, .inr (13, xM g 0 0 0)), (g 1, .inl (cy 3, 8, .inl (fun _ => 0))), (g 3, .inl (cy 1, 8, .inl f_14))] := ⟨_, hP, hD⟩
                    refine lv_aload_n hx hb dX13_join_20 rfl (lv_at hl 1 rfl) ?_
                    refine va_get (D := D) (ci := 13) (v := .ref (g 1)) (C := RX13) (T := TX13) (N := 68) hx hb hts iG13 hown hK.1 hP 0 rfl rfl 4 (by decide) (hts _ gw1126) (fun _ h9 => h9) rfl dX13_join_21 ?_
                    refine lv_iload_n hx hb dX13_join_24 rfl (lv_at hl 0 rfl) ?_
                    refine va_zald hx hb hK.1 hP 1 3 rfl rfl (show vp_in 4 8 by unfold vp_in; decide) dX13_join_25 ?_
                    refine lv_if_ne (tgt := 32) hx hb dX13_join_26 (by decide) (fun c_15 => ?_) (fun c_15 => ?_)
                    · exact absurd c_15 (by decide)
                    · refine lv_goto (tgt := 117) hx hb dX13_join_29 (by decide) ?_
                      refine lv_iinc (v := 5) (lv' := [(1, .int 5), (0, .ref z0)]) hx hb dX13_join_117 hl (k := 0) rfl (by decide) (by decide) rfl (fun ls hl => ?_)
                      refine lv_goto (tgt := 7) hx hb dX13_join_120 (by decide) ?_
                      refine lv_iload_n hx hb dX13_join_7 rfl (lv_at hl 0 rfl) ?_
                      refine lv_bipush (v := 8) hx hb dX13_join_8 (by decide) ?_
                      refine lv_icmp_ge (tgt := 123) hx hb dX13_join_10 (by decide) (fun c_16 => ?_) (fun c_16 => ?_)
                      · exact absurd c_16 (by decide)
                      · refine lv_aload_n hx hb dX13_join_13 rfl (lv_at hl 1 rfl) ?_
                        refine va_get (D := D) (ci := 13) (v := .ref (g 3)) (C := RX13) (T := TX13) (N := 68) hx hb hts iG13 hown hK.1 hP 0 rfl rfl 6 (by decide) (hts _ gw1128) (fun _ h9 => h9) rfl dX13_join_14 ?_
                        refine lv_iload_n hx hb dX13_join_17 rfl (lv_at hl 0 rfl) ?_
                        refine lv_iconst (v := 0) hx hb dX13_join_18 (by decide) ?_
                        refine va_iast hx hb hK.1 hP hD hS 2 1 rfl rfl (show vp_in 5 8 by unfold vp_in; decide) dX13_join_19 (fun H locs hP hD hS => ?_)
                        obtain ⟨f_17, hP, hD⟩ : ∃ f_17 : Nat → Int32, va_P D vwCl [(z0, .inr (13, xM g 0 0 0)), (g 1, .inl (cy 3, 8, .inl (fun _ => 0))), (g 3, .inl (cy 1, 8, .inl f_17))] H ∧ va_D A [(z0, .inr (13, xM g 0 0 0)), (g 1, .inl (cy 3, 8, .inl (fun _ => 0))), (g 3, .inl (cy 1, 8, .inl f_17))] := ⟨_, hP, hD⟩
                        refine lv_aload_n hx hb dX13_join_20 rfl (lv_at hl 1 rfl) ?_
                        refine va_get (D := D) (ci := 13) (v := .ref (g 1)) (C := RX13) (T := TX13) (N := 68) hx hb hts iG13 hown hK.1 hP 0 rfl rfl 4 (by decide) (hts _ gw1126) (fun _ h9 => h9) rfl dX13_join_21 ?_
                        refine lv_iload_n hx hb dX13_join_24 rfl (lv_at hl 0 rfl) ?_
                        refine va_zald hx hb hK.1 hP 1 3 rfl rfl (show vp_in 5 8 by unfold vp_in; decide) dX13_join_25 ?_
                        refine lv_if_ne (tgt := 32) hx hb dX13_join_26 (by decide) (fun c_18 => ?_) (fun c_18 => ?_)
                        · exact absurd c_18 (by decide)
                        · refine lv_goto (tgt := 117) hx hb dX13_join_29 (by decide) ?_
                          refine lv_iinc (v := 6) (lv' := [(1, .int 6), (0, .ref z0)]) hx hb dX13_join_117 hl (k := 0) rfl (by decide) (by decide) rfl (fun ls hl => ?_)
                          refine lv_goto (tgt := 7) hx hb dX13_join_120 (by decide) ?_
                          refine lv_iload_n hx hb dX13_join_7 rfl (lv_at hl 0 rfl) ?_
                          refine lv_bipush (v := 8) hx hb dX13_join_8 (by decide) ?_
                          refine lv_icmp_ge (tgt := 123) hx hb dX13_join_10 (by decide) (fun c_19 => ?_) (fun c_19 => ?_)
                          · exact absurd c_19 (by decide)
                          · refine lv_aload_n hx hb dX13_join_13 rfl (lv_at hl 1 rfl) ?_
                            refine va_get (D := D) (ci := 13) (v := .ref (g 3)) (C := RX13) (T := TX13) (N := 68) hx hb hts iG13 hown hK.1 hP 0 rfl rfl 6 (by decide) (hts _ gw1128) (fun _ h9 => h9) rfl dX13_join_14 ?_
                            refine lv_iload_n hx hb dX13_join_17 rfl (lv_at hl 0 rfl) ?_
                            refine lv_iconst (v := 0) hx hb dX13_join_18 (by decide) ?_
                            refine va_iast hx hb hK.1 hP hD hS 2 1 rfl rfl (show vp_in 6 8 by unfold vp_in; decide) dX13_join_19 (fun H locs hP hD hS => ?_)
                            obtain ⟨f_20, hP, hD⟩ : ∃ f_20 : Nat → Int32, va_P D vwCl [(z0, .inr (13, xM g 0 0 0)), (g 1, .inl (cy 3, 8, .inl (fun _ => 0))), (g 3, .inl (cy 1, 8, .inl f_20))] H ∧ va_D A [(z0, .inr (13, xM g 0 0 0)), (g 1, .inl (cy 3, 8, .inl (fun _ => 0))), (g 3, .inl (cy 1, 8, .inl f_20))] := ⟨_, hP, hD⟩
                            refine lv_aload_n hx hb dX13_join_20 rfl (lv_at hl 1 rfl) ?_
                            refine va_get (D := D) (ci := 13) (v := .ref (g 1)) (C := RX13) (T := TX13) (N := 68) hx hb hts iG13 hown hK.1 hP 0 rfl rfl 4 (by decide) (hts _ gw1126) (fun _ h9 => h9) rfl dX13_join_21 ?_
                            refine lv_iload_n hx hb dX13_join_24 rfl (lv_at hl 0 rfl) ?_
                            refine va_zald hx hb hK.1 hP 1 3 rfl rfl (show vp_in 6 8 by unfold vp_in; decide) dX13_join_25 ?_
                            refine lv_if_ne (tgt := 32) hx hb dX13_join_26 (by decide) (fun c_21 => ?_) (fun c_21 => ?_)
                            · exact absurd c_21 (by decide)
                            · refine lv_goto (tgt := 117) hx hb dX13_join_29 (by decide) ?_
                              refine lv_iinc (v := 7) (lv' := [(1, .int 7), (0, .ref z0)]) hx hb dX13_join_117 hl (k := 0) rfl (by decide) (by decide) rfl (fun ls hl => ?_)
                              refine lv_goto (tgt := 7) hx hb dX13_join_120 (by decide) ?_
                              refine lv_iload_n hx hb dX13_join_7 rfl (lv_at hl 0 rfl) ?_
                              refine lv_bipush (v := 8) hx hb dX13_join_8 (by decide) ?_
                              refine lv_icmp_ge (tgt := 123) hx hb dX13_join_10 (by decide) (fun c_22 => ?_) (fun c_22 => ?_)
                              · exact absurd c_22 (by decide)
                              · refine lv_aload_n hx hb dX13_join_13 rfl (lv_at hl 1 rfl) ?_
                                refine va_get (D := D) (ci := 13) (v := .ref (g 3)) (C := RX13) (T := TX13) (N := 68) hx hb hts iG13 hown hK.1 hP 0 rfl rfl 6 (by decide) (hts _ gw1128) (fun _ h9 => h9) rfl dX13_join_14 ?_
                                refine lv_iload_n hx hb dX13_join_17 rfl (lv_at hl 0 rfl) ?_
                                refine lv_iconst (v := 0) hx hb dX13_join_18 (by decide) ?_
                                refine va_iast hx hb hK.1 hP hD hS 2 1 rfl rfl (show vp_in 7 8 by unfold vp_in; decide) dX13_join_19 (fun H locs hP hD hS => ?_)
                                obtain ⟨f_23, hP, hD⟩ : ∃ f_23 : Nat → Int32, va_P D vwCl [(z0, .inr (13, xM g 0 0 0)), (g 1, .inl (cy 3, 8, .inl (fun _ => 0))), (g 3, .inl (cy 1, 8, .inl f_23))] H ∧ va_D A [(z0, .inr (13, xM g 0 0 0)), (g 1, .inl (cy 3, 8, .inl (fun _ => 0))), (g 3, .inl (cy 1, 8, .inl f_23))] := ⟨_, hP, hD⟩
                                refine lv_aload_n hx hb dX13_join_20 rfl (lv_at hl 1 rfl) ?_
                                refine va_get (D := D) (ci := 13) (v := .ref (g 1)) (C := RX13) (T := TX13) (N := 68) hx hb hts iG13 hown hK.1 hP 0 rfl rfl 4 (by decide) (hts _ gw1126) (fun _ h9 => h9) rfl dX13_join_21 ?_
                                refine lv_iload_n hx hb dX13_join_24 rfl (lv_at hl 0 rfl) ?_
                                refine va_zald hx hb hK.1 hP 1 3 rfl rfl (show vp_in 7 8 by unfold vp_in; decide) dX13_join_25 ?_
                                refine lv_if_ne (tgt := 32) hx hb dX13_join_26 (by decide) (fun c_24 => ?_) (fun c_24 => ?_)
                                · exact absurd c_24 (by decide)
                                · refine lv_goto (tgt := 117) hx hb dX13_join_29 (by decide) ?_
                                  refine lv_iinc (v := 8) (lv' := [(1, .int 8), (0, .ref z0)]) hx hb dX13_join_117 hl (k := 0) rfl (by decide) (by decide) rfl (fun ls hl => ?_)
                                  refine lv_goto (tgt := 7) hx hb dX13_join_120 (by decide) ?_
                                  refine lv_iload_n hx hb dX13_join_7 rfl (lv_at hl 0 rfl) ?_
                                  refine lv_bipush (v := 8) hx hb dX13_join_8 (by decide) ?_
                                  refine lv_icmp_ge (tgt := 123) hx hb dX13_join_10 (by decide) (fun c_25 => ?_) (fun c_25 => ?_)
                                  · have hP9 := hP.sub (ws' := []) [] rfl
                                    have hD9 := hD.sub (ws' := []) [] (by decide) rfl
                                    refine W.widen (k := 0) (n := 0) (Nat.le_of_ble_eq_true rfl) (Nat.le_of_ble_eq_true rfl) ?_
                                    exact W.vret hx hb hr (fun t ht hW => ⟨⟨(), rfl, trivial, by rw [ht]; exact hP9, hD9⟩, hS.F ht⟩) hS.2.2 dX13_join_123
                                  · exact absurd c_25 (by decide)
