theorem gw1411 : (Cond.constantLong RX13 271 (9223372036854775807)) ∈ xG := xin6 211 (by decide +kernel) (by decide +kernel)
theorem gw1169 : (Cond.fieldLink RX13 220 "CableNamesModel" "ringMany" "I") ∈ xG := xin5 209 (by decide +kernel) (by decide +kernel)
theorem gw1480 : (Cond.code yX13_acts cX13_acts 3 (Option.some .boolean)) ∈ xG := xin7 40 (by decide +kernel) (by decide +kernel)
theorem gw1479 : (Cond.instanceMethod yX13_acts) ∈ xG := xin7 39 (by decide +kernel) (by decide +kernel)
theorem gw1477 : (Cond.methodLink RX13 324 yX13_acts) ∈ xG := xin7 37 (by decide +kernel) (by decide +kernel)
theorem gs69 : (Cond.selects RX13 yX13_acts yX13_acts) ∈ xG := xinS 69 (by decide +kernel) (by decide +kernel)
theorem gw1348 : (Cond.code yX13_millisecond cX13_millisecond 7 none) ∈ xG := xin6 148 (by decide +kernel) (by decide +kernel)
theorem gw1347 : (Cond.instanceMethod yX13_millisecond) ∈ xG := xin6 147 (by decide +kernel) (by decide +kernel)
theorem gw1345 : (Cond.methodLink RX13 328 yX13_millisecond) ∈ xG := xin6 145 (by decide +kernel) (by decide +kernel)
theorem gs44 : (Cond.selects RX13 yX13_millisecond yX13_millisecond) ∈ xG := xinS 44 (by decide +kernel) (by decide +kernel)
theorem gw1514 : (Cond.code yX13_nextDue cX13_nextDue 5 (Option.some .long)) ∈ xG := xin7 74 (by decide +kernel) (by decide +kernel)
theorem gw1513 : (Cond.instanceMethod yX13_nextDue) ∈ xG := xin7 73 (by decide +kernel) (by decide +kernel)
theorem gw1511 : (Cond.methodLink RX13 331 yX13_nextDue) ∈ xG := xin7 71 (by decide +kernel) (by decide +kernel)
theorem gs77 : (Cond.selects RX13 yX13_nextDue yX13_nextDue) ∈ xG := xinS 77 (by decide +kernel) (by decide +kernel)
theorem gw1408 : (Cond.constantLong RX13 262 (31)) ∈ xG := xin6 208 (by decide +kernel) (by decide +kernel)
theorem gw1409 : (Cond.constantLong RX13 264 (17)) ∈ xG := xin6 209 (by decide +kernel) (by decide +kernel)
theorem gw1410 : (Cond.constantLong RX13 266 (200)) ∈ xG := xin6 210 (by decide +kernel) (by decide +kernel)
theorem gw1523 : (Cond.constant RX13 389 (65535)) ∈ xG := xin7 83 (by decide +kernel) (by decide +kernel)
theorem gw1527 : (Cond.code yX13_forgets cX13_forgets 3 none) ∈ xG := xin7 87 (by decide +kernel) (by decide +kernel)
theorem gw1526 : (Cond.instanceMethod yX13_forgets) ∈ xG := xin7 86 (by decide +kernel) (by decide +kernel)
theorem gw1524 : (Cond.methodLink RX13 390 yX13_forgets) ∈ xG := xin7 84 (by decide +kernel) (by decide +kernel)
theorem gs79 : (Cond.selects RX13 yX13_forgets yX13_forgets) ∈ xG := xinS 79 (by decide +kernel) (by decide +kernel)
theorem gw1407 : (Cond.code yX13_probes cX13_probes 2 none) ∈ xG := xin6 207 (by decide +kernel) (by decide +kernel)
theorem gw1406 : (Cond.instanceMethod yX13_probes) ∈ xG := xin6 206 (by decide +kernel) (by decide +kernel)
theorem gw1404 : (Cond.methodLink RX13 268 yX13_probes) ∈ xG := xin6 204 (by decide +kernel) (by decide +kernel)
theorem gs57 : (Cond.selects RX13 yX13_probes yX13_probes) ∈ xG := xinS 57 (by decide +kernel) (by decide +kernel)
set_option maxHeartbeats 4000000 in
set_option maxRecDepth 100000 in
theorem m_acts (l : Launch) (D : va_G) (cy : Nat → ClassId) (z0 : Nat) (g : Nat → Nat) (tv : Int64) : xMi l D cy yX13_acts cX13_acts 3 (some .boolean) ({ frames := 0, cells := 0, slots := 0, locals := 0 }) [.ref z0] [(z0, .inr (13, xM g tv 0 0)), (g 1, .inl (cy 3, 8, .inl (fun _ => 0)))] (S := Unit) (fun r _ => r = 0) (fun _ => [(z0, .inr (13, xM g tv 0 0)), (g 1, .inl (cy 3, 8, .inl (fun _ => 0)))]) := by
  intro sz
  refine Met.ofW (cc := cX13_acts) (maxL := 3) (ret := (some .boolean)) (by decide) rfl ?_
  intro p e s m args below meth c s₁ B hml hv
  obtain ⟨rfl, hsz, hP, hK, hD0⟩ := hv
  have hx := B.exec
  have hb := B.bytes
  have hr := B.returns
  have hts0 := atoms_spec (ws := xw yX13_acts cX13_acts 3 (some .boolean)) B.pre
  have hts : ∀ w ∈ xG, w.before _ s = true := fun w h => hts0 w (List.mem_cons_of_mem _ h)
  have hown : s.vm.findClass RX13 = some m.cls := findClass_of_methodNamed B.named
  have hlocks := B.notSynchronized
  subst hsz
  have hD := hD0.self (sz := s.heap.size)
  generalize hAe : va_A [(z0, .inr (13, xM g tv 0 0)), (g 1, .inl (cy 3, 8, .inl (fun _ => 0)))] s.heap.size = A at hD ⊢
  have hA : ∀ q : Nat, s.heap.size ≤ q → A q := fun q h => by rw [← hAe]; exact Or.inr h
  have hS : va_S A s.heap s.heap [] := va_S.rf
  have hl := lv_entry ([.ref z0]) (n := 3) (Nat.le_of_ble_eq_true rfl)
  rw [lg_entry_eq]
  generalize (lg_sl ([.ref z0]) ++ List.replicate (3 - (lg_sl ([.ref z0])).length) Slot.unset).toArray = ls at hl ⊢
  have hl : lv_has ls 3 [(0, .ref z0)] := hl
  refine lv_iconst (v := 0) hx hb dX13_acts_0 (by decide) ?_
  refine lv_istore_n (lv' := [(1, .int 0), (0, .ref z0)]) hx hb dX13_acts_1 rfl hl (by decide) rfl (fun ls hl => ?_)
  refine lv_iload_n hx hb dX13_acts_2 rfl (lv_at hl 0 rfl) ?_
  refine lv_bipush (v := 8) hx hb dX13_acts_3 (by decide) ?_
  refine lv_icmp_ge (tgt := 208) hx hb dX13_acts_5 (by decide) (fun c_1 => ?_) (fun c_1 => ?_)
  · exact absurd c_1 (by decide)
  · refine lv_aload_n hx hb dX13_acts_8 rfl (lv_at hl 1 rfl) ?_
    refine va_get (D := D) (ci := 13) (v := .ref (g 1)) (C := RX13) (T := TX13) (N := 68) hx hb hts iG13 hown hK.1 hP 0 rfl rfl 4 (by decide) (hts _ gw1126) (fun _ h9 => h9) rfl dX13_acts_9 ?_
    refine lv_iload_n hx hb dX13_acts_12 rfl (lv_at hl 0 rfl) ?_
    refine va_zald hx hb hK.1 hP 1 3 rfl rfl (show vp_in 0 8 by unfold vp_in; decide) dX13_acts_13 ?_
    refine lv_if_ne (tgt := 20) hx hb dX13_acts_14 (by decide) (fun c_2 => ?_) (fun c_2 => ?_)
    · exact absurd c_2 (by decide)
    · refine lv_goto (tgt := 202) hx hb dX13_acts_17 (by decide) ?_
      refine lv_iinc (v := 1) (lv' := [(1, .int 1), (0, .ref z0)]) hx hb dX13_acts_202 hl (k := 0) rfl (by decide) (by decide) rfl (fun ls hl => ?_)
      refine lv_goto (tgt := 2) hx hb dX13_acts_205 (by decide) ?_
      refine lv_iload_n hx hb dX13_acts_2 rfl (lv_at hl 0 rfl) ?_
      refine lv_bipush (v := 8) hx hb dX13_acts_3 (by decide) ?_
      refine lv_icmp_ge (tgt := 208) hx hb dX13_acts_5 (by decide) (fun c_3 => ?_) (fun c_3 => ?_)
      · exact absurd c_3 (by decide)
      · refine lv_aload_n hx hb dX13_acts_8 rfl (lv_at hl 1 rfl) ?_
        refine va_get (D := D) (ci := 13) (v := .ref (g 1)) (C := RX13) (T := TX13) (N := 68) hx hb hts iG13 hown hK.1 hP 0 rfl rfl 4 (by decide) (hts _ gw1126) (fun _ h9 => h9) rfl dX13_acts_9 ?_
        refine lv_iload_n hx hb dX13_acts_12 rfl (lv_at hl 0 rfl) ?_
        refine va_zald hx hb hK.1 hP 1 3 rfl rfl (show vp_in 1 8 by unfold vp_in; decide) dX13_acts_13 ?_
        refine lv_if_ne (tgt := 20) hx hb dX13_acts_14 (by decide) (fun c_4 => ?_) (fun c_4 => ?_)
        · exact absurd c_4 (by decide)
        · refine lv_goto (tgt := 202) hx hb dX13_acts_17 (by decide) ?_
          refine lv_iinc (v := 2) (lv' := [(1, .int 2), (0, .ref z0)]) hx hb dX13_acts_202 hl (k := 0) rfl (by decide) (by decide) rfl (fun ls hl => ?_)
          refine lv_goto (tgt := 2) hx hb dX13_acts_205 (by decide) ?_
          refine lv_iload_n hx hb dX13_acts_2 rfl (lv_at hl 0 rfl) ?_
          refine lv_bipush (v := 8) hx hb dX13_acts_3 (by decide) ?_
          refine lv_icmp_ge (tgt := 208) hx hb dX13_acts_5 (by decide) (fun c_5 => ?_) (fun c_5 => ?_)
          · exact absurd c_5 (by decide)
          · refine lv_aload_n hx hb dX13_acts_8 rfl (lv_at hl 1 rfl) ?_
            refine va_get (D := D) (ci := 13) (v := .ref (g 1)) (C := RX13) (T := TX13) (N := 68) hx hb hts iG13 hown hK.1 hP 0 rfl rfl 4 (by decide) (hts _ gw1126) (fun _ h9 => h9) rfl dX13_acts_9 ?_
            refine lv_iload_n hx hb dX13_acts_12 rfl (lv_at hl 0 rfl) ?_
            refine va_zald hx hb hK.1 hP 1 3 rfl rfl (show vp_in 2 8 by unfold vp_in; decide) dX13_acts_13 ?_
            refine lv_if_ne (tgt := 20) hx hb dX13_acts_14 (by decide) (fun c_6 => ?_) (fun c_6 => ?_)
            · exact absurd c_6 (by decide)
            · refine lv_goto (tgt := 202) hx hb dX13_acts_17 (by decide) ?_
              refine lv_iinc (v := 3) (lv' := [(1, .int 3), (0, .ref z0)]) hx hb dX13_acts_202 hl (k := 0) rfl (by decide) (by decide) rfl (fun ls hl => ?_)
              refine lv_goto (tgt := 2) hx hb dX13_acts_205 (by decide) ?_
              refine lv_iload_n hx hb dX13_acts_2 rfl (lv_at hl 0 rfl) ?_
              refine lv_bipush (v := 8) hx hb dX13_acts_3 (by decide) ?_
              refine lv_icmp_ge (tgt := 208) hx hb dX13_acts_5 (by decide) (fun c_7 => ?_) (fun c_7 => ?_)
              · exact absurd c_7 (by decide)
              · refine lv_aload_n hx hb dX13_acts_8 rfl (lv_at hl 1 rfl) ?_
                refine va_get (D := D) (ci := 13) (v := .ref (g 1)) (C := RX13) (T := TX13) (N := 68) hx hb hts iG13 hown hK.1 hP 0 rfl rfl 4 (by decide) (hts _ gw1126) (fun _ h9 => h9) rfl dX13_acts_9 ?_
                refine lv_iload_n hx hb dX13_acts_12 rfl (lv_at hl 0 rfl) ?_
                refine va_zald hx hb hK.1 hP 1 3 rfl rfl (show vp_in 3 8 by unfold vp_in; decide) dX13_acts_13 ?_
                refine lv_if_ne (tgt := 20) hx hb dX13_acts_14 (by decide) (fun c_8 => ?_) (fun c_8 => ?_)
                · exact absurd c_8 (by decide)
                · refine lv_goto (tgt := 202) hx hb dX13_acts_17 (by decide) ?_
                  refine lv_iinc (v := 4) (lv' := [(1, .int 4), (0, .ref z0)]) hx hb dX13_acts_202 hl (k := 0) rfl (by decide) (by decide) rfl (fun ls hl => ?_)
                  refine lv_goto (tgt := 2) hx hb dX13_acts_205 (by decide) ?_
                  refine lv_iload_n hx hb dX13_acts_2 rfl (lv_at hl 0 rfl) ?_
                  refine lv_bipush (v := 8) hx hb dX13_acts_3 (by decide) ?_
                  refine lv_icmp_ge (tgt := 208) hx hb dX13_acts_5 (by decide) (fun c_9 => ?_) (fun c_9 => ?_)
                  · exact absurd c_9 (by decide)
                  · refine lv_aload_n hx hb dX13_acts_8 rfl (lv_at hl 1 rfl) ?_
                    refine va_get (D := D) (ci := 13) (v := .ref (g 1)) (C := RX13) (T := TX13) (N := 68) hx hb hts iG13 hown hK.1 hP 0 rfl rfl 4 (by decide) (hts _ gw1126) (fun _ h9 => h9) rfl dX13_acts_9 ?_
                    refine lv_iload_n hx hb dX13_acts_12 rfl (lv_at hl 0 rfl) ?_
                    refine va_zald hx hb hK.1 hP 1 3 rfl rfl (show vp_in 4 8 by unfold vp_in; decide) dX13_acts_13 ?_
                    refine lv_if_ne (tgt := 20) hx hb dX13_acts_14 (by decide) (fun c_10 => ?_) (fun c_10 => ?_)
                    · exact absurd c_10 (by decide)
                    · refine lv_goto (tgt := 202) hx hb dX13_acts_17 (by decide) ?_
                      refine lv_iinc (v := 5) (lv' := [(1, .int 5), (0, .ref z0)]) hx hb dX13_acts_202 hl (k := 0) rfl (by decide) (by decide) rfl (fun ls hl => ?_)
                      refine lv_goto (tgt := 2) hx hb dX13_acts_205 (by decide) ?_
                      refine lv_iload_n hx hb dX13_acts_2 rfl (lv_at hl 0 rfl) ?_
                      refine lv_bipush (v := 8) hx hb dX13_acts_3 (by decide) ?_
                      refine lv_icmp_ge (tgt := 208) hx hb dX13_acts_5 (by decide) (fun c_11 => ?_) (fun c_11 => ?_)
                      · exact absurd c_11 (by decide)
                      · refine lv_aload_n hx hb dX13_acts_8 rfl (lv_at hl 1 rfl) ?_
                        refine va_get (D := D) (ci := 13) (v := .ref (g 1)) (C := RX13) (T := TX13) (N := 68) hx hb hts iG13 hown hK.1 hP 0 rfl rfl 4 (by decide) (hts _ gw1126) (fun _ h9 => h9) rfl dX13_acts_9 ?_
                        refine lv_iload_n hx hb dX13_acts_12 rfl (lv_at hl 0 rfl) ?_
                        refine va_zald hx hb hK.1 hP 1 3 rfl rfl (show vp_in 5 8 by unfold vp_in; decide) dX13_acts_13 ?_
                        refine lv_if_ne (tgt := 20) hx hb dX13_acts_14 (by decide) (fun c_12 => ?_) (fun c_12 => ?_)
                        · exact absurd c_12 (by decide)
                        · refine lv_goto (tgt := 202) hx hb dX13_acts_17 (by decide) ?_
                          refine lv_iinc (v := 6) (lv' := [(1, .int 6), (0, .ref z0)]) hx hb dX13_acts_202 hl (k := 0) rfl (by decide) (by decide) rfl (fun ls hl => ?_)
                          refine lv_goto (tgt := 2) hx hb dX13_acts_205 (by decide) ?_
                          refine lv_iload_n hx hb dX13_acts_2 rfl (lv_at hl 0 rfl) ?_
                          refine lv_bipush (v := 8) hx hb dX13_acts_3 (by decide) ?_
                          refine lv_icmp_ge (tgt := 208) hx hb dX13_acts_5 (by decide) (fun c_13 => ?_) (fun c_13 => ?_)
                          · exact absurd c_13 (by decide)
                          · refine lv_aload_n hx hb dX13_acts_8 rfl (lv_at hl 1 rfl) ?_
                            refine va_get (D := D) (ci := 13) (v := .ref (g 1)) (C := RX13) (T := TX13) (N := 68) hx hb hts iG13 hown hK.1 hP 0 rfl rfl 4 (by decide) (hts _ gw1126) (fun _ h9 => h9) rfl dX13_acts_9 ?_
                            refine lv_iload_n hx hb dX13_acts_12 rfl (lv_at hl 0 rfl) ?_
                            refine va_zald hx hb hK.1 hP 1 3 rfl rfl (show vp_in 6 8 by unfold vp_in; decide) dX13_acts_13 ?_
                            refine lv_if_ne (tgt := 20) hx hb dX13_acts_14 (by decide) (fun c_14 => ?_) (fun c_14 => ?_)
                            · exact absurd c_14 (by decide)
                            · refine lv_goto (tgt := 202) hx hb dX13_acts_17 (by decide) ?_
                              refine lv_iinc (v := 7) (lv' := [(1, .int 7), (0, .ref z0)]) hx hb dX13_acts_202 hl (k := 0) rfl (by decide) (by decide) rfl (fun ls hl => ?_)
                              refine lv_goto (tgt := 2) hx hb dX13_acts_205 (by decide) ?_
                              refine lv_iload_n hx hb dX13_acts_2 rfl (lv_at hl 0 rfl) ?_
                              refine lv_bipush (v := 8) hx hb dX13_acts_3 (by decide) ?_
                              refine lv_icmp_ge (tgt := 208) hx hb dX13_acts_5 (by decide) (fun c_15 => ?_) (fun c_15 => ?_)
                              · exact absurd c_15 (by decide)
                              · refine lv_aload_n hx hb dX13_acts_8 rfl (lv_at hl 1 rfl) ?_
                                refine va_get (D := D) (ci := 13) (v := .ref (g 1)) (C := RX13) (T := TX13) (N := 68) hx hb hts iG13 hown hK.1 hP 0 rfl rfl 4 (by decide) (hts _ gw1126) (fun _ h9 => h9) rfl dX13_acts_9 ?_
                                refine lv_iload_n hx hb dX13_acts_12 rfl (lv_at hl 0 rfl) ?_
                                refine va_zald hx hb hK.1 hP 1 3 rfl rfl (show vp_in 7 8 by unfold vp_in; decide) dX13_acts_13 ?_
                                refine lv_if_ne (tgt := 20) hx hb dX13_acts_14 (by decide) (fun c_16 => ?_) (fun c_16 => ?_)
                                · exact absurd c_16 (by decide)
                                · refine lv_goto (tgt := 202) hx hb dX13_acts_17 (by decide) ?_
                                  refine lv_iinc (v := 8) (lv' := [(1, .int 8), (0, .ref z0)]) hx hb dX13_acts_202 hl (k := 0) rfl (by decide) (by decide) rfl (fun ls hl => ?_)
                                  refine lv_goto (tgt := 2) hx hb dX13_acts_205 (by decide) ?_
                                  refine lv_iload_n hx hb dX13_acts_2 rfl (lv_at hl 0 rfl) ?_
                                  refine lv_bipush (v := 8) hx hb dX13_acts_3 (by decide) ?_
                                  refine lv_icmp_ge (tgt := 208) hx hb dX13_acts_5 (by decide) (fun c_17 => ?_) (fun c_17 => ?_)
                                  · refine lv_iconst (v := 0) hx hb dX13_acts_208 (by decide) ?_
                                    have hP9 := hP.sub (ws' := [(z0, .inr (13, xM g tv 0 0)), (g 1, .inl (cy 3, 8, .inl (fun _ => 0)))]) [0, 1] rfl
                                    have hD9 := hD.sub (ws' := [(z0, .inr (13, xM g tv 0 0)), (g 1, .inl (cy 3, 8, .inl (fun _ => 0)))]) [0, 1] (by decide) rfl
                                    refine W.widen (k := 0) (n := 0) (Nat.le_of_ble_eq_true rfl) (Nat.le_of_ble_eq_true rfl) ?_
                                    exact W.zret (v := 0) hx hb hr (by decide) (fun t ht hW => ⟨⟨0, (), rfl, rfl, by rw [ht]; exact hP9, hD9⟩, hS.F ht⟩) hS.2.2 dX13_acts_209
                                  · exact absurd c_17 (by decide)
set_option maxHeartbeats 4000000 in
set_option maxRecDepth 100000 in
theorem m_nextDue (l : Launch) (D : va_G) (cy : Nat → ClassId) (z0 : Nat) (g : Nat → Nat) (tv : Int64) : xMl l D cy yX13_nextDue cX13_nextDue 5 ({ frames := 0, cells := 0, slots := 0, locals := 0 }) [.ref z0] [(z0, .inr (13, xM g tv 0 0)), (g 1, .inl (cy 3, 8, .inl (fun _ => 0)))] (S := Unit) (fun r _ => r = 9223372036854775807) (fun _ => [(z0, .inr (13, xM g tv 0 0)), (g 1, .inl (cy 3, 8, .inl (fun _ => 0)))]) := by
  intro sz
  refine Met.ofW (cc := cX13_nextDue) (maxL := 5) (ret := (some .long)) (by decide) rfl ?_
  intro p e s m args below meth c s₁ B hml hv
  obtain ⟨rfl, hsz, hP, hK, hD0⟩ := hv
  have hx := B.exec
  have hb := B.bytes
  have hr := B.returns
  have hts0 := atoms_spec (ws := xw yX13_nextDue cX13_nextDue 5 (some .long)) B.pre
  have hts : ∀ w ∈ xG, w.before _ s = true := fun w h => hts0 w (List.mem_cons_of_mem _ h)
  have hown : s.vm.findClass RX13 = some m.cls := findClass_of_methodNamed B.named
  have hlocks := B.notSynchronized
  subst hsz
  have hD := hD0.self (sz := s.heap.size)
  generalize hAe : va_A [(z0, .inr (13, xM g tv 0 0)), (g 1, .inl (cy 3, 8, .inl (fun _ => 0)))] s.heap.size = A at hD ⊢
  have hA : ∀ q : Nat, s.heap.size ≤ q → A q := fun q h => by rw [← hAe]; exact Or.inr h
  have hS : va_S A s.heap s.heap [] := va_S.rf
  have hl := lv_entry ([.ref z0]) (n := 5) (Nat.le_of_ble_eq_true rfl)
  rw [lg_entry_eq]
  generalize (lg_sl ([.ref z0]) ++ List.replicate (5 - (lg_sl ([.ref z0])).length) Slot.unset).toArray = ls at hl ⊢
  have hl : lv_has ls 5 [(0, .ref z0)] := hl
  refine lv_ldc2 (v := 9223372036854775807) hx hb hown (hts _ gw1411) dX13_nextDue_0 ?_
  refine lv_lstore_n (lv' := [(1, .long 9223372036854775807), (0, .ref z0)]) hx hb dX13_nextDue_3 rfl hl (by decide) rfl (fun ls hl => ?_)
  refine lv_iconst (v := 0) hx hb dX13_nextDue_4 (by decide) ?_
  refine lv_istore_n (lv' := [(3, .int 0), (1, .long 9223372036854775807), (0, .ref z0)]) hx hb dX13_nextDue_5 rfl hl (by decide) rfl (fun ls hl => ?_)
  refine lv_iload_n hx hb dX13_nextDue_6 rfl (lv_at hl 0 rfl) ?_
  refine lv_bipush (v := 8) hx hb dX13_nextDue_7 (by decide) ?_
  refine lv_icmp_ge (tgt := 229) hx hb dX13_nextDue_9 (by decide) (fun c_1 => ?_) (fun c_1 => ?_)
  · exact absurd c_1 (by decide)
  · refine lv_aload_n hx hb dX13_nextDue_12 rfl (lv_at hl 2 rfl) ?_
    refine va_get (D := D) (ci := 13) (v := .ref (g 1)) (C := RX13) (T := TX13) (N := 68) hx hb hts iG13 hown hK.1 hP 0 rfl rfl 4 (by decide) (hts _ gw1126) (fun _ h9 => h9) rfl dX13_nextDue_13 ?_
    refine lv_iload_n hx hb dX13_nextDue_16 rfl (lv_at hl 0 rfl) ?_
    refine va_zald hx hb hK.1 hP 1 3 rfl rfl (show vp_in 0 8 by unfold vp_in; decide) dX13_nextDue_17 ?_
    refine lv_if_ne (tgt := 24) hx hb dX13_nextDue_18 (by decide) (fun c_2 => ?_) (fun c_2 => ?_)
    · exact absurd c_2 (by decide)
    · refine lv_goto (tgt := 223) hx hb dX13_nextDue_21 (by decide) ?_
      refine lv_iinc (v := 1) (lv' := [(3, .int 1), (1, .long 9223372036854775807), (0, .ref z0)]) hx hb dX13_nextDue_223 hl (k := 0) rfl (by decide) (by decide) rfl (fun ls hl => ?_)
      refine lv_goto (tgt := 6) hx hb dX13_nextDue_226 (by decide) ?_
      refine lv_iload_n hx hb dX13_nextDue_6 rfl (lv_at hl 0 rfl) ?_
      refine lv_bipush (v := 8) hx hb dX13_nextDue_7 (by decide) ?_
      refine lv_icmp_ge (tgt := 229) hx hb dX13_nextDue_9 (by decide) (fun c_3 => ?_) (fun c_3 => ?_)
      · exact absurd c_3 (by decide)
      · refine lv_aload_n hx hb dX13_nextDue_12 rfl (lv_at hl 2 rfl) ?_
        refine va_get (D := D) (ci := 13) (v := .ref (g 1)) (C := RX13) (T := TX13) (N := 68) hx hb hts iG13 hown hK.1 hP 0 rfl rfl 4 (by decide) (hts _ gw1126) (fun _ h9 => h9) rfl dX13_nextDue_13 ?_
        refine lv_iload_n hx hb dX13_nextDue_16 rfl (lv_at hl 0 rfl) ?_
        refine va_zald hx hb hK.1 hP 1 3 rfl rfl (show vp_in 1 8 by unfold vp_in; decide) dX13_nextDue_17 ?_
        refine lv_if_ne (tgt := 24) hx hb dX13_nextDue_18 (by decide) (fun c_4 => ?_) (fun c_4 => ?_)
        · exact absurd c_4 (by decide)
        · refine lv_goto (tgt := 223) hx hb dX13_nextDue_21 (by decide) ?_
          refine lv_iinc (v := 2) (lv' := [(3, .int 2), (1, .long 9223372036854775807), (0, .ref z0)]) hx hb dX13_nextDue_223 hl (k := 0) rfl (by decide) (by decide) rfl (fun ls hl => ?_)
          refine lv_goto (tgt := 6) hx hb dX13_nextDue_226 (by decide) ?_
          refine lv_iload_n hx hb dX13_nextDue_6 rfl (lv_at hl 0 rfl) ?_
          refine lv_bipush (v := 8) hx hb dX13_nextDue_7 (by decide) ?_
          refine lv_icmp_ge (tgt := 229) hx hb dX13_nextDue_9 (by decide) (fun c_5 => ?_) (fun c_5 => ?_)
          · exact absurd c_5 (by decide)
          · refine lv_aload_n hx hb dX13_nextDue_12 rfl (lv_at hl 2 rfl) ?_
            refine va_get (D := D) (ci := 13) (v := .ref (g 1)) (C := RX13) (T := TX13) (N := 68) hx hb hts iG13 hown hK.1 hP 0 rfl rfl 4 (by decide) (hts _ gw1126) (fun _ h9 => h9) rfl dX13_nextDue_13 ?_
            refine lv_iload_n hx hb dX13_nextDue_16 rfl (lv_at hl 0 rfl) ?_
            refine va_zald hx hb hK.1 hP 1 3 rfl rfl (show vp_in 2 8 by unfold vp_in; decide) dX13_nextDue_17 ?_
            refine lv_if_ne (tgt := 24) hx hb dX13_nextDue_18 (by decide) (fun c_6 => ?_) (fun c_6 => ?_)
            · exact absurd c_6 (by decide)
            · refine lv_goto (tgt := 223) hx hb dX13_nextDue_21 (by decide) ?_
              refine lv_iinc (v := 3) (lv' := [(3, .int 3), (1, .long 9223372036854775807), (0, .ref z0)]) hx hb dX13_nextDue_223 hl (k := 0) rfl (by decide) (by decide) rfl (fun ls hl => ?_)
              refine lv_goto (tgt := 6) hx hb dX13_nextDue_226 (by decide) ?_
              refine lv_iload_n hx hb dX13_nextDue_6 rfl (lv_at hl 0 rfl) ?_
              refine lv_bipush (v := 8) hx hb dX13_nextDue_7 (by decide) ?_
              refine lv_icmp_ge (tgt := 229) hx hb dX13_nextDue_9 (by decide) (fun c_7 => ?_) (fun c_7 => ?_)
              · exact absurd c_7 (by decide)
              · refine lv_aload_n hx hb dX13_nextDue_12 rfl (lv_at hl 2 rfl) ?_
                refine va_get (D := D) (ci := 13) (v := .ref (g 1)) (C := RX13) (T := TX13) (N := 68) hx hb hts iG13 hown hK.1 hP 0 rfl rfl 4 (by decide) (hts _ gw1126) (fun _ h9 => h9) rfl dX13_nextDue_13 ?_
                refine lv_iload_n hx hb dX13_nextDue_16 rfl (lv_at hl 0 rfl) ?_
                refine va_zald hx hb hK.1 hP 1 3 rfl rfl (show vp_in 3 8 by unfold vp_in; decide) dX13_nextDue_17 ?_
                refine lv_if_ne (tgt := 24) hx hb dX13_nextDue_18 (by decide) (fun c_8 => ?_) (fun c_8 => ?_)
                · exact absurd c_8 (by decide)
                · refine lv_goto (tgt := 223) hx hb dX13_nextDue_21 (by decide) ?_
                  refine lv_iinc (v := 4) (lv' := [(3, .int 4), (1, .long 9223372036854775807), (0, .ref z0)]) hx hb dX13_nextDue_223 hl (k := 0) rfl (by decide) (by decide) rfl (fun ls hl => ?_)
                  refine lv_goto (tgt := 6) hx hb dX13_nextDue_226 (by decide) ?_
                  refine lv_iload_n hx hb dX13_nextDue_6 rfl (lv_at hl 0 rfl) ?_
                  refine lv_bipush (v := 8) hx hb dX13_nextDue_7 (by decide) ?_
                  refine lv_icmp_ge (tgt := 229) hx hb dX13_nextDue_9 (by decide) (fun c_9 => ?_) (fun c_9 => ?_)
                  · exact absurd c_9 (by decide)
                  · refine lv_aload_n hx hb dX13_nextDue_12 rfl (lv_at hl 2 rfl) ?_
                    refine va_get (D := D) (ci := 13) (v := .ref (g 1)) (C := RX13) (T := TX13) (N := 68) hx hb hts iG13 hown hK.1 hP 0 rfl rfl 4 (by decide) (hts _ gw1126) (fun _ h9 => h9) rfl dX13_nextDue_13 ?_
                    refine lv_iload_n hx hb dX13_nextDue_16 rfl (lv_at hl 0 rfl) ?_
                    refine va_zald hx hb hK.1 hP 1 3 rfl rfl (show vp_in 4 8 by unfold vp_in; decide) dX13_nextDue_17 ?_
                    refine lv_if_ne (tgt := 24) hx hb dX13_nextDue_18 (by decide) (fun c_10 => ?_) (fun c_10 => ?_)
                    · exact absurd c_10 (by decide)
                    · refine lv_goto (tgt := 223) hx hb dX13_nextDue_21 (by decide) ?_
                      refine lv_iinc (v := 5) (lv' := [(3, .int 5), (1, .long 9223372036854775807), (0, .ref z0)]) hx hb dX13_nextDue_223 hl (k := 0) rfl (by decide) (by decide) rfl (fun ls hl => ?_)
                      refine lv_goto (tgt := 6) hx hb dX13_nextDue_226 (by decide) ?_
                      refine lv_iload_n hx hb dX13_nextDue_6 rfl (lv_at hl 0 rfl) ?_
                      refine lv_bipush (v := 8) hx hb dX13_nextDue_7 (by decide) ?_
                      refine lv_icmp_ge (tgt := 229) hx hb dX13_nextDue_9 (by decide) (fun c_11 => ?_) (fun c_11 => ?_)
                      · exact absurd c_11 (by decide)
                      · refine lv_aload_n hx hb dX13_nextDue_12 rfl (lv_at hl 2 rfl) ?_
                        refine va_get (D := D) (ci := 13) (v := .ref (g 1)) (C := RX13) (T := TX13) (N := 68) hx hb hts iG13 hown hK.1 hP 0 rfl rfl 4 (by decide) (hts _ gw1126) (fun _ h9 => h9) rfl dX13_nextDue_13 ?_
                        refine lv_iload_n hx hb dX13_nextDue_16 rfl (lv_at hl 0 rfl) ?_
                        refine va_zald hx hb hK.1 hP 1 3 rfl rfl (show vp_in 5 8 by unfold vp_in; decide) dX13_nextDue_17 ?_
                        refine lv_if_ne (tgt := 24) hx hb dX13_nextDue_18 (by decide) (fun c_12 => ?_) (fun c_12 => ?_)
                        · exact absurd c_12 (by decide)
                        · refine lv_goto (tgt := 223) hx hb dX13_nextDue_21 (by decide) ?_
                          refine lv_iinc (v := 6) (lv' := [(3, .int 6), (1, .long 9223372036854775807), (0, .ref z0)]) hx hb dX13_nextDue_223 hl (k := 0) rfl (by decide) (by decide) rfl (fun ls hl => ?_)
                          refine lv_goto (tgt := 6) hx hb dX13_nextDue_226 (by decide) ?_
                          refine lv_iload_n hx hb dX13_nextDue_6 rfl (lv_at hl 0 rfl) ?_
                          refine lv_bipush (v := 8) hx hb dX13_nextDue_7 (by decide) ?_
                          refine lv_icmp_ge (tgt := 229) hx hb dX13_nextDue_9 (by decide) (fun c_13 => ?_) (fun c_13 => ?_)
                          · exact absurd c_13 (by decide)
                          · refine lv_aload_n hx hb dX13_nextDue_12 rfl (lv_at hl 2 rfl) ?_
                            refine va_get (D := D) (ci := 13) (v := .ref (g 1)) (C := RX13) (T := TX13) (N := 68) hx hb hts iG13 hown hK.1 hP 0 rfl rfl 4 (by decide) (hts _ gw1126) (fun _ h9 => h9) rfl dX13_nextDue_13 ?_
                            refine lv_iload_n hx hb dX13_nextDue_16 rfl (lv_at hl 0 rfl) ?_
                            refine va_zald hx hb hK.1 hP 1 3 rfl rfl (show vp_in 6 8 by unfold vp_in; decide) dX13_nextDue_17 ?_
                            refine lv_if_ne (tgt := 24) hx hb dX13_nextDue_18 (by decide) (fun c_14 => ?_) (fun c_14 => ?_)
                            · exact absurd c_14 (by decide)
                            · refine lv_goto (tgt := 223) hx hb dX13_nextDue_21 (by decide) ?_
                              refine lv_iinc (v := 7) (lv' := [(3, .int 7), (1, .long 9223372036854775807), (0, .ref z0)]) hx hb dX13_nextDue_223 hl (k := 0) rfl (by decide) (by decide) rfl (fun ls hl => ?_)
                              refine lv_goto (tgt := 6) hx hb dX13_nextDue_226 (by decide) ?_
                              refine lv_iload_n hx hb dX13_nextDue_6 rfl (lv_at hl 0 rfl) ?_
                              refine lv_bipush (v := 8) hx hb dX13_nextDue_7 (by decide) ?_
                              refine lv_icmp_ge (tgt := 229) hx hb dX13_nextDue_9 (by decide) (fun c_15 => ?_) (fun c_15 => ?_)
                              · exact absurd c_15 (by decide)
                              · refine lv_aload_n hx hb dX13_nextDue_12 rfl (lv_at hl 2 rfl) ?_
                                refine va_get (D := D) (ci := 13) (v := .ref (g 1)) (C := RX13) (T := TX13) (N := 68) hx hb hts iG13 hown hK.1 hP 0 rfl rfl 4 (by decide) (hts _ gw1126) (fun _ h9 => h9) rfl dX13_nextDue_13 ?_
                                refine lv_iload_n hx hb dX13_nextDue_16 rfl (lv_at hl 0 rfl) ?_
                                refine va_zald hx hb hK.1 hP 1 3 rfl rfl (show vp_in 7 8 by unfold vp_in; decide) dX13_nextDue_17 ?_
                                refine lv_if_ne (tgt := 24) hx hb dX13_nextDue_18 (by decide) (fun c_16 => ?_) (fun c_16 => ?_)
                                · exact absurd c_16 (by decide)
                                · refine lv_goto (tgt := 223) hx hb dX13_nextDue_21 (by decide) ?_
                                  refine lv_iinc (v := 8) (lv' := [(3, .int 8), (1, .long 9223372036854775807), (0, .ref z0)]) hx hb dX13_nextDue_223 hl (k := 0) rfl (by decide) (by decide) rfl (fun ls hl => ?_)
                                  refine lv_goto (tgt := 6) hx hb dX13_nextDue_226 (by decide) ?_
                                  refine lv_iload_n hx hb dX13_nextDue_6 rfl (lv_at hl 0 rfl) ?_
                                  refine lv_bipush (v := 8) hx hb dX13_nextDue_7 (by decide) ?_
                                  refine lv_icmp_ge (tgt := 229) hx hb dX13_nextDue_9 (by decide) (fun c_17 => ?_) (fun c_17 => ?_)
                                  · refine lv_lload_n hx hb dX13_nextDue_229 rfl (lv_at hl 1 rfl) ?_
                                    have hP9 := hP.sub (ws' := [(z0, .inr (13, xM g tv 0 0)), (g 1, .inl (cy 3, 8, .inl (fun _ => 0)))]) [0, 1] rfl
                                    have hD9 := hD.sub (ws' := [(z0, .inr (13, xM g tv 0 0)), (g 1, .inl (cy 3, 8, .inl (fun _ => 0)))]) [0, 1] (by decide) rfl
                                    refine W.widen (k := 0) (n := 0) (Nat.le_of_ble_eq_true rfl) (Nat.le_of_ble_eq_true rfl) ?_
                                    exact W.lret (v := 9223372036854775807) hx hb hr (fun t ht hW => ⟨⟨9223372036854775807, (), rfl, rfl, by rw [ht]; exact hP9, hD9⟩, hS.F ht⟩) hS.2.2 dX13_nextDue_230
                                  · exact absurd c_17 (by decide)
set_option maxHeartbeats 4000000 in
set_option maxRecDepth 100000 in
theorem m_millisecond (l : Launch) (D : va_G) (cy : Nat → ClassId) (z0 : Nat) (g : Nat → Nat) (tv : Int64) : xMv l D cy yX13_millisecond cX13_millisecond 7 ({ frames := 1, cells := 0, slots := 0, locals := 22 }) [.ref z0] [(z0, .inr (13, xM g tv 0 0)), (g 1, .inl (cy 3, 8, .inl (fun _ => 0)))] (S := Unit) (fun _ => True) (fun _ => [(z0, .inr (13, xM g tv 0 0)), (g 1, .inl (cy 3, 8, .inl (fun _ => 0)))]) := by
  intro sz
  refine Met.ofW (cc := cX13_millisecond) (maxL := 7) (ret := none) (by decide) rfl ?_
  intro p e s m args below meth c s₁ B hml hv
  obtain ⟨rfl, hsz, hP, hK, hD0⟩ := hv
  have hx := B.exec
  have hb := B.bytes
  have hr := B.returns
  have hts0 := atoms_spec (ws := xw yX13_millisecond cX13_millisecond 7 none) B.pre
  have hts : ∀ w ∈ xG, w.before _ s = true := fun w h => hts0 w (List.mem_cons_of_mem _ h)
  have hown : s.vm.findClass RX13 = some m.cls := findClass_of_methodNamed B.named
  have hlocks := B.notSynchronized
  subst hsz
  have hD := hD0.self (sz := s.heap.size)
  generalize hAe : va_A [(z0, .inr (13, xM g tv 0 0)), (g 1, .inl (cy 3, 8, .inl (fun _ => 0)))] s.heap.size = A at hD ⊢
  have hA : ∀ q : Nat, s.heap.size ≤ q → A q := fun q h => by rw [← hAe]; exact Or.inr h
  have hS : va_S A s.heap s.heap [] := va_S.rf
  have hl := lv_entry ([.ref z0]) (n := 7) (Nat.le_of_ble_eq_true rfl)
  rw [lg_entry_eq]
  generalize (lg_sl ([.ref z0]) ++ List.replicate (7 - (lg_sl ([.ref z0])).length) Slot.unset).toArray = ls at hl ⊢
  have hl : lv_has ls 7 [(0, .ref z0)] := hl
  refine lv_iconst (v := 1) hx hb dX13_millisecond_0 (by decide) ?_
  refine lv_istore_n (lv' := [(1, .int 1), (0, .ref z0)]) hx hb dX13_millisecond_1 rfl hl (by decide) rfl (fun ls hl => ?_)
  refine lv_iload_n hx hb dX13_millisecond_2 rfl (lv_at hl 0 rfl) ?_
  refine lv_if_eq (tgt := 211) hx hb dX13_millisecond_3 (by decide) (fun c_1 => ?_) (fun c_1 => ?_)
  · exact absurd c_1 (by decide)
  · refine lv_aload_n hx hb dX13_millisecond_6 rfl (lv_at hl 1 rfl) ?_
    refine va_get (D := D) (ci := 13) (v := .int 0) (C := RX13) (T := TX13) (N := 68) hx hb hts iG13 hown hK.1 hP 0 rfl rfl 47 (by decide) (hts _ gw1169) (fun _ h9 => h9) rfl dX13_millisecond_7 ?_
    refine lv_if_le (tgt := 203) hx hb dX13_millisecond_10 (by decide) (fun c_2 => ?_) (fun c_2 => ?_)
    · refine lv_aload_n hx hb dX13_millisecond_203 rfl (lv_at hl 1 rfl) ?_
      refine x_calli [(z0, .inr (13, xM g tv 0 0)), (g 1, .inl (cy 3, 8, .inl (fun _ => 0)))] [] (va_runV (As := []) (rest := []) ⟨hx, hb, hml, hown, hts⟩ (m_acts l D cy z0 g tv s.heap.size) (cwV 0 hts (xV gw1477 gw1479 gs69 gw14 gw1480) rfl rfl rfl (by decide +kernel) ⟨(Nat.le_of_ble_eq_true rfl), (Nat.le_of_ble_eq_true rfl)⟩) (xpreV hK (hP.sub (ws' := [(z0, .inr (13, xM g tv 0 0)), (g 1, .inl (cy 3, 8, .inl (fun _ => 0)))]) [0, 1] rfl) (hD.sub (ws' := [(z0, .inr (13, xM g tv 0 0)), (g 1, .inl (cy 3, 8, .inl (fun _ => 0)))]) [0, 1] (by decide) rfl) 0 13 rfl rfl rfl) rfl rfl hl.1 rfl (lv_room (Nat.le_of_ble_eq_true rfl)) dX13_millisecond_204 ⟨(Nat.le_of_ble_eq_true rfl), (Nat.le_of_ble_eq_true rfl)⟩) hP hD hS hA [0, 1] [] rfl rfl (by decide) (by decide) (fun r_u_3 u_3 H locs hw_u_3 hP hD hS => ?_)
      have hP : va_P D vwCl [(z0, .inr (13, xM g tv 0 0)), (g 1, .inl (cy 3, 8, .inl (fun _ => 0)))] H := hP
      have hD : va_D A [(z0, .inr (13, xM g tv 0 0)), (g 1, .inl (cy 3, 8, .inl (fun _ => 0)))] := hD
      refine W.widen (k := 0) (n := 0) (Nat.le_of_ble_eq_true rfl) (Nat.le_of_ble_eq_true rfl) ?_
      refine x_cv (y := .int 0) (by rw [hw_u_3]) ?_
      refine lv_istore_n (lv' := [(1, .int 0), (0, .ref z0)]) hx hb dX13_millisecond_207 rfl hl (by decide) rfl (fun ls hl => ?_)
      refine lv_goto (tgt := 2) hx hb dX13_millisecond_208 (by decide) ?_
      refine lv_iload_n hx hb dX13_millisecond_2 rfl (lv_at hl 0 rfl) ?_
      refine lv_if_eq (tgt := 211) hx hb dX13_millisecond_3 (by decide) (fun c_4 => ?_) (fun c_4 => ?_)
      · have hP9 := hP.sub (ws' := [(z0, .inr (13, xM g tv 0 0)), (g 1, .inl (cy 3, 8, .inl (fun _ => 0)))]) [0, 1] rfl
        have hD9 := hD.sub (ws' := [(z0, .inr (13, xM g tv 0 0)), (g 1, .inl (cy 3, 8, .inl (fun _ => 0)))]) [0, 1] (by decide) rfl
        refine W.widen (k := 0) (n := 0) (Nat.le_of_ble_eq_true rfl) (Nat.le_of_ble_eq_true rfl) ?_
        exact W.vret hx hb hr (fun t ht hW => ⟨⟨(), rfl, trivial, by rw [ht]; exact hP9, hD9⟩, hS.F ht⟩) hS.2.2 dX13_millisecond_211
      · exact absurd c_4 (by decide)
    · exact absurd c_2 (by decide)
set_option maxHeartbeats 4000000 in
set_option maxRecDepth 100000 in
theorem m_go (l : Launch) (D : va_G) (cy : Nat → ClassId) (z0 : Nat) (g : Nat → Nat) (a : Int32) : xMi l D cy yX13_go cX13_go 6 (some .int) ({ frames := 2, cells := 0, slots := 0, locals := 48 }) [.ref z0, .int a] [(z0, .inr (13, xM g 0 0 0)), (g 1, .inl (cy 3, 8, .inl (fun _ => 0)))] (S := Unit) (fun r _ => r = xgo a) (fun _ => []) := by
  intro sz
  refine Met.ofW (cc := cX13_go) (maxL := 6) (ret := (some .int)) (by decide) rfl ?_
  intro p e s m args below meth c s₁ B hml hv
  obtain ⟨rfl, hsz, hP, hK, hD0⟩ := hv
  have hx := B.exec
  have hb := B.bytes
  have hr := B.returns
  have hts0 := atoms_spec (ws := xw yX13_go cX13_go 6 (some .int)) B.pre
  have hts : ∀ w ∈ xG, w.before _ s = true := fun w h => hts0 w (List.mem_cons_of_mem _ h)
  have hown : s.vm.findClass RX13 = some m.cls := findClass_of_methodNamed B.named
  have hlocks := B.notSynchronized
  subst hsz
  have hD := hD0.self (sz := s.heap.size)
  generalize hAe : va_A [(z0, .inr (13, xM g 0 0 0)), (g 1, .inl (cy 3, 8, .inl (fun _ => 0)))] s.heap.size = A at hD ⊢
  have hA : ∀ q : Nat, s.heap.size ≤ q → A q := fun q h => by rw [← hAe]; exact Or.inr h
  have hS : va_S A s.heap s.heap [] := va_S.rf
  have hl := lv_entry ([.ref z0, .int a]) (n := 6) (Nat.le_of_ble_eq_true rfl)
  rw [lg_entry_eq]
  generalize (lg_sl ([.ref z0, .int a]) ++ List.replicate (6 - (lg_sl ([.ref z0, .int a])).length) Slot.unset).toArray = ls at hl ⊢
  have hl : lv_has ls 6 [(0, .ref z0), (1, .int a)] := hl
  refine lv_aload_n hx hb dX13_go_0 rfl (lv_at hl 0 rfl) ?_
  refine lv_iconst (v := 0) hx hb dX13_go_1 (by decide) ?_
  refine va_put (D := D) (ci := 13) (v := .int 0) (ty := .int) (C := RX13) (T := TX13) (N := 68) hx hb hts iG13 tyX13 tyX13_ok nmX13 hown hK.1 hP hD hS 0 rfl rfl 3 (by decide) (hts _ gw1125) (fun _ h9 => h9) rfl (by decide +kernel) rfl rfl (Nat.le_of_ble_eq_true rfl) dX13_go_2 (fun H locs hP hD hS => ?_)
  have hP : va_P D vwCl [(z0, .inr (13, xM g 0 0 0)), (g 1, .inl (cy 3, 8, .inl (fun _ => 0)))] H := hP
  have hD : va_D A [(z0, .inr (13, xM g 0 0 0)), (g 1, .inl (cy 3, 8, .inl (fun _ => 0)))] := hD
  refine lv_iload_n hx hb dX13_go_5 rfl (lv_at hl 1 rfl) ?_
  refine lv_if_lt (tgt := 16) hx hb dX13_go_6 (by decide) (fun c_1 => ?_) (fun c_1 => ?_)
  · refine lv_iconst (v := (-1)) hx hb dX13_go_16 (by decide) ?_
    have hP9 := hP.sub (ws' := []) [] rfl
    have hD9 := hD.sub (ws' := []) [] (by decide) rfl
    refine W.widen (k := 0) (n := 0) (Nat.le_of_ble_eq_true rfl) (Nat.le_of_ble_eq_true rfl) ?_
    exact W.iret (v := (-1)) hx hb hr (fun t ht hW => ⟨⟨(-1), (), rfl, (show _ = xgo a by unfold xgo; simp [c_1]), by rw [ht]; exact hP9, hD9⟩, hS.F ht⟩) hS.2.2 dX13_go_17
  · refine lv_iload_n hx hb dX13_go_9 rfl (lv_at hl 1 rfl) ?_
    refine lv_sipush (v := 20000) hx hb dX13_go_10 (by decide) ?_
    refine lv_icmp_le (tgt := 18) hx hb dX13_go_13 (by decide) (fun c_2 => ?_) (fun c_2 => ?_)
    · refine lv_aload_n hx hb dX13_go_18 rfl (lv_at hl 0 rfl) ?_
      refine x_callv [(z0, .inr (13, xM g 0 0 0)), (g 1, .inl (cy 3, 8, .inl (fun _ => 0)))] [] (va_runV (As := []) (rest := []) ⟨hx, hb, hml, hown, hts⟩ (m_millisecond l D cy z0 g 0 H.size) (cwV 0 hts (xV gw1345 gw1347 gs44 gw14 gw1348) rfl rfl rfl (by decide +kernel) ⟨(Nat.le_of_ble_eq_true rfl), (Nat.le_of_ble_eq_true rfl)⟩) (xpreV hK (hP.sub (ws' := [(z0, .inr (13, xM g 0 0 0)), (g 1, .inl (cy 3, 8, .inl (fun _ => 0)))]) [0, 1] rfl) (hD.sub (ws' := [(z0, .inr (13, xM g 0 0 0)), (g 1, .inl (cy 3, 8, .inl (fun _ => 0)))]) [0, 1] (by decide) rfl) 0 13 rfl rfl rfl) rfl rfl hl.1 rfl (lv_room (Nat.le_of_ble_eq_true rfl)) dX13_go_19 ⟨(Nat.le_of_ble_eq_true rfl), (Nat.le_of_ble_eq_true rfl)⟩) hP hD hS hA [0, 1] [] rfl rfl (by decide) (by decide) (fun u_3 H locs hw_u_3 hP hD hS => ?_)
      have hP : va_P D vwCl [(z0, .inr (13, xM g 0 0 0)), (g 1, .inl (cy 3, 8, .inl (fun _ => 0)))] H := hP
      have hD : va_D A [(z0, .inr (13, xM g 0 0 0)), (g 1, .inl (cy 3, 8, .inl (fun _ => 0)))] := hD
      refine W.widen (k := 0) (n := 0) (Nat.le_of_ble_eq_true rfl) (Nat.le_of_ble_eq_true rfl) ?_
      refine lv_aload_n hx hb dX13_go_22 rfl (lv_at hl 0 rfl) ?_
      refine va_get (D := D) (ci := 13) (v := .long 0) (C := RX13) (T := TX13) (N := 68) hx hb hts iG13 hown hK.1 hP 0 rfl rfl 0 (by decide) (hts _ gw1122) (fun _ h9 => h9) rfl dX13_go_23 ?_
      refine lv_iload_n hx hb dX13_go_26 rfl (lv_at hl 1 rfl) ?_
      refine lv_i2l (v := a.toInt64) hx hb dX13_go_27 rfl ?_
      refine lv_ladd hx hb dX13_go_28 ?_
      refine x_cl (y := 0 + a.toInt64) rfl ?_
      refine lv_lstore_n (lv' := [(2, .long (0 + a.toInt64)), (0, .ref z0), (1, .int a)]) hx hb dX13_go_29 rfl hl (by decide) rfl (fun ls hl => ?_)
      rcases xl3 c_1 with hz | hz
      · refine lv_aload_n hx hb dX13_go_30 rfl (lv_at hl 1 rfl) ?_
        refine va_get (D := D) (ci := 13) (v := .long 0) (C := RX13) (T := TX13) (N := 68) hx hb hts iG13 hown hK.1 hP 0 rfl rfl 0 (by decide) (hts _ gw1122) (fun _ h9 => h9) rfl dX13_go_31 ?_
        refine lv_lload_n hx hb dX13_go_34 rfl (lv_at hl 0 rfl) ?_
        refine W.lcmp hx hb dX13_go_35 ?_
        refine x_ci (y := 0) (xl0 hz) ?_
        refine lv_if_ge (tgt := 88) hx hb dX13_go_36 (by decide) (fun c_4 => ?_) (fun c_4 => ?_)
        · refine lv_aload_n hx hb dX13_go_88 rfl (lv_at hl 1 rfl) ?_
          refine va_get (D := D) (ci := 13) (v := .long 0) (C := RX13) (T := TX13) (N := 68) hx hb hts iG13 hown hK.1 hP 0 rfl rfl 0 (by decide) (hts _ gw1122) (fun _ h9 => h9) rfl dX13_go_89 ?_
          refine lv_l2i (v := 0) hx hb dX13_go_92 (by decide) ?_
          have hP9 := hP.sub (ws' := []) [] rfl
          have hD9 := hD.sub (ws' := []) [] (by decide) rfl
          refine W.widen (k := 0) (n := 0) (Nat.le_of_ble_eq_true rfl) (Nat.le_of_ble_eq_true rfl) ?_
          exact W.iret (v := 0) hx hb hr (fun t ht hW => ⟨⟨0, (), rfl, (show _ = xgo a by rw [hz]; rfl), by rw [ht]; exact hP9, hD9⟩, hS.F ht⟩) hS.2.2 dX13_go_93
        · exact absurd c_4 (by decide)
      · refine lv_aload_n hx hb dX13_go_30 rfl (lv_at hl 1 rfl) ?_
        refine va_get (D := D) (ci := 13) (v := .long 0) (C := RX13) (T := TX13) (N := 68) hx hb hts iG13 hown hK.1 hP 0 rfl rfl 0 (by decide) (hts _ gw1122) (fun _ h9 => h9) rfl dX13_go_31 ?_
        refine lv_lload_n hx hb dX13_go_34 rfl (lv_at hl 0 rfl) ?_
        refine W.lcmp hx hb dX13_go_35 ?_
        refine x_ci (y := (-1)) (xl1 hz) ?_
        refine lv_if_ge (tgt := 88) hx hb dX13_go_36 (by decide) (fun c_5 => ?_) (fun c_5 => ?_)
        · exact absurd c_5 (by decide)
        · refine lv_aload_n hx hb dX13_go_39 rfl (lv_at hl 1 rfl) ?_
          refine x_calll [(z0, .inr (13, xM g 0 0 0)), (g 1, .inl (cy 3, 8, .inl (fun _ => 0)))] [] (va_runV (As := []) (rest := []) ⟨hx, hb, hml, hown, hts⟩ (m_nextDue l D cy z0 g 0 H.size) (cwV 0 hts (xV gw1511 gw1513 gs77 gw14 gw1514) rfl rfl rfl (by decide +kernel) ⟨(Nat.le_of_ble_eq_true rfl), (Nat.le_of_ble_eq_true rfl)⟩) (xpreV hK (hP.sub (ws' := [(z0, .inr (13, xM g 0 0 0)), (g 1, .inl (cy 3, 8, .inl (fun _ => 0)))]) [0, 1] rfl) (hD.sub (ws' := [(z0, .inr (13, xM g 0 0 0)), (g 1, .inl (cy 3, 8, .inl (fun _ => 0)))]) [0, 1] (by decide) rfl) 0 13 rfl rfl rfl) rfl rfl hl.1 rfl (lv_room (Nat.le_of_ble_eq_true rfl)) dX13_go_40 ⟨(Nat.le_of_ble_eq_true rfl), (Nat.le_of_ble_eq_true rfl)⟩) hP hD hS hA [0, 1] [] rfl rfl (by decide) (by decide) (fun r_u_6 u_6 H locs hw_u_6 hP hD hS => ?_)
          have hP : va_P D vwCl [(z0, .inr (13, xM g 0 0 0)), (g 1, .inl (cy 3, 8, .inl (fun _ => 0)))] H := hP
          have hD : va_D A [(z0, .inr (13, xM g 0 0 0)), (g 1, .inl (cy 3, 8, .inl (fun _ => 0)))] := hD
          refine W.widen (k := 0) (n := 0) (Nat.le_of_ble_eq_true rfl) (Nat.le_of_ble_eq_true rfl) ?_
          refine x_cv (y := .long 9223372036854775807) (by rw [hw_u_6]) ?_
          refine lv_lstore (lv' := [(4, .long 9223372036854775807), (2, .long (0 + a.toInt64)), (0, .ref z0), (1, .int a)]) hx hb dX13_go_43 hl (by decide) rfl (fun ls hl => ?_)
          refine lv_aload_n hx hb dX13_go_45 rfl (lv_at hl 2 rfl) ?_
          refine lv_lload hx hb dX13_go_46 (lv_at hl 0 rfl) ?_
          refine lv_lload_n hx hb dX13_go_48 rfl (lv_at hl 1 rfl) ?_
          refine W.lcmp hx hb dX13_go_49 ?_
          refine x_ci (y := 1) (xgo_c (by decide) c_2) ?_
          refine lv_if_le (tgt := 57) hx hb dX13_go_50 (by decide) (fun c_7 => ?_) (fun c_7 => ?_)
          · exact absurd c_7 (by decide)
          · refine lv_lload_n hx hb dX13_go_53 rfl (lv_at hl 1 rfl) ?_
            refine lv_goto (tgt := 78) hx hb dX13_go_54 (by decide) ?_
            refine va_put (D := D) (ci := 13) (v := .long (0 + a.toInt64)) (ty := .long) (C := RX13) (T := TX13) (N := 68) hx hb hts iG13 tyX13 tyX13_ok nmX13 hown hK.1 hP hD hS 0 rfl rfl 0 (by decide) (hts _ gw1122) (fun _ h9 => h9) rfl (by decide +kernel) rfl rfl (Nat.le_of_ble_eq_true rfl) dX13_go_78 (fun H locs hP hD hS => ?_)
            have hP : va_P D vwCl [(z0, .inr (13, xM g (0 + a.toInt64) 0 0)), (g 1, .inl (cy 3, 8, .inl (fun _ => 0)))] H := hP
            have hD : va_D A [(z0, .inr (13, xM g (0 + a.toInt64) 0 0)), (g 1, .inl (cy 3, 8, .inl (fun _ => 0)))] := hD
            refine lv_aload_n hx hb dX13_go_81 rfl (lv_at hl 2 rfl) ?_
            refine x_callv [(z0, .inr (13, xM g (0 + a.toInt64) 0 0)), (g 1, .inl (cy 3, 8, .inl (fun _ => 0)))] [] (va_runV (As := []) (rest := []) ⟨hx, hb, hml, hown, hts⟩ (m_millisecond l D cy z0 g (0 + a.toInt64) H.size) (cwV 0 hts (xV gw1345 gw1347 gs44 gw14 gw1348) rfl rfl rfl (by decide +kernel) ⟨(Nat.le_of_ble_eq_true rfl), (Nat.le_of_ble_eq_true rfl)⟩) (xpreV hK (hP.sub (ws' := [(z0, .inr (13, xM g (0 + a.toInt64) 0 0)), (g 1, .inl (cy 3, 8, .inl (fun _ => 0)))]) [0, 1] rfl) (hD.sub (ws' := [(z0, .inr (13, xM g (0 + a.toInt64) 0 0)), (g 1, .inl (cy 3, 8, .inl (fun _ => 0)))]) [0, 1] (by decide) rfl) 0 13 rfl rfl rfl) rfl rfl hl.1 rfl (lv_room (Nat.le_of_ble_eq_true rfl)) dX13_go_82 ⟨(Nat.le_of_ble_eq_true rfl), (Nat.le_of_ble_eq_true rfl)⟩) hP hD hS hA [0, 1] [] rfl rfl (by decide) (by decide) (fun u_8 H locs hw_u_8 hP hD hS => ?_)
            have hP : va_P D vwCl [(z0, .inr (13, xM g (0 + a.toInt64) 0 0)), (g 1, .inl (cy 3, 8, .inl (fun _ => 0)))] H := hP
            have hD : va_D A [(z0, .inr (13, xM g (0 + a.toInt64) 0 0)), (g 1, .inl (cy 3, 8, .inl (fun _ => 0)))] := hD
            refine W.widen (k := 0) (n := 0) (Nat.le_of_ble_eq_true rfl) (Nat.le_of_ble_eq_true rfl) ?_
            refine lv_goto (tgt := 30) hx hb dX13_go_85 (by decide) ?_
            refine lv_aload_n hx hb dX13_go_30 rfl (lv_at hl 2 rfl) ?_
            refine va_get (D := D) (ci := 13) (v := .long (0 + a.toInt64)) (C := RX13) (T := TX13) (N := 68) hx hb hts iG13 hown hK.1 hP 0 rfl rfl 0 (by decide) (hts _ gw1122) (fun _ h9 => h9) rfl dX13_go_31 ?_
            refine lv_lload_n hx hb dX13_go_34 rfl (lv_at hl 1 rfl) ?_
            refine W.lcmp hx hb dX13_go_35 ?_
            refine x_ci (y := 0) (xl2 _) ?_
            refine lv_if_ge (tgt := 88) hx hb dX13_go_36 (by decide) (fun c_9 => ?_) (fun c_9 => ?_)
            · refine lv_aload_n hx hb dX13_go_88 rfl (lv_at hl 2 rfl) ?_
              refine va_get (D := D) (ci := 13) (v := .long (0 + a.toInt64)) (C := RX13) (T := TX13) (N := 68) hx hb hts iG13 hown hK.1 hP 0 rfl rfl 0 (by decide) (hts _ gw1122) (fun _ h9 => h9) rfl dX13_go_89 ?_
              refine lv_l2i (v := (0 + a.toInt64).toInt32) hx hb dX13_go_92 rfl ?_
              have hP9 := hP.sub (ws' := []) [] rfl
              have hD9 := hD.sub (ws' := []) [] (by decide) rfl
              refine W.widen (k := 0) (n := 0) (Nat.le_of_ble_eq_true rfl) (Nat.le_of_ble_eq_true rfl) ?_
              exact W.iret (v := (0 + a.toInt64).toInt32) hx hb hr (fun t ht hW => ⟨⟨(0 + a.toInt64).toInt32, (), rfl, (show _ = xgo a by rw [xgo_t]; unfold xgo; simp [c_1, c_2, hz]), by rw [ht]; exact hP9, hD9⟩, hS.F ht⟩) hS.2.2 dX13_go_93
            · exact absurd c_9 (by decide)
    · refine lv_iconst (v := (-1)) hx hb dX13_go_16 (by decide) ?_
      have hP9 := hP.sub (ws' := []) [] rfl
      have hD9 := hD.sub (ws' := []) [] (by decide) rfl
      refine W.widen (k := 0) (n := 0) (Nat.le_of_ble_eq_true rfl) (Nat.le_of_ble_eq_true rfl) ?_
      exact W.iret (v := (-1)) hx hb hr (fun t ht hW => ⟨⟨(-1), (), rfl, (show _ = xgo a by unfold xgo; simp [c_1, c_2]), by rw [ht]; exact hP9, hD9⟩, hS.F ht⟩) hS.2.2 dX13_go_17
set_option maxHeartbeats 4000000 in
set_option maxRecDepth 100000 in
theorem m_forgets (l : Launch) (D : va_G) (cy : Nat → ClassId) (z0 : Nat) (g : Nat → Nat) (h : Int32) (h1 : ¬ h < 0) (h2 : ¬ 8 ≤ h) : xMv l D cy yX13_forgets cX13_forgets 3 ({ frames := 0, cells := 0, slots := 0, locals := 0 }) [.ref z0, .int h] [(z0, .inr (13, xM g 0 0 0)), (g 1, .inl (cy 3, 8, .inl (fun _ => 0))), (g 2, .inl (cy 1, 8, .inl (fun _ => 0))), (g 4, .inl (cy 1, 8, .inl (fun _ => 0))), (g 5, .inl (cy 1, 8, .inl (fun _ => 0))), (g 6, .inl (cy 1, 8, .inl (fun _ => 0))), (g 7, .inl (cy 1, 8, .inl (fun _ => 0))), (g 8, .inl (cy 1, 8, .inl (fun _ => 0))), (g 10, .inl (cy 3, 8, .inl (fun _ => 0))), (g 11, .inl (cy 2, 8, .inr (.inl (fun _ => 0)))), (g 12, .inl (cy 2, 8, .inr (.inl (fun _ => 0)))), (g 13, .inl (cy 1, 8, .inl (fun _ => 0))), (g 15, .inl (cy 2, 8, .inr (.inl (fun _ => 0)))), (g 16, .inl (cy 1, 8, .inl (fun _ => 0))), (g 21, .inl (cy 1, 8, .inl (fun _ => 0))), (g 23, .inl (cy 1, 32, .inl (fun _ => 0))), (g 28, .inl (cy 1, 8, .inl (fun _ => 0))), (g 29, .inl (cy 1, 8, .inl (fun _ => 0)))] (S := (Nat → Int32) × (Nat → Int32) × (Nat → Int32) × (Nat → Int32) × (Nat → Int64)) (fun _ => True) (fun u => [(z0, .inr (13, xM g 0 0 0)), (g 1, .inl (cy 3, 8, .inl u.1)), (g 2, .inl (cy 1, 8, .inl u.2.1)), (g 4, .inl (cy 1, 8, .inl u.2.2.1)), (g 10, .inl (cy 3, 8, .inl u.2.2.2.1)), (g 11, .inl (cy 2, 8, .inr (.inl u.2.2.2.2)))]) := by
  intro sz
  refine Met.ofW (cc := cX13_forgets) (maxL := 3) (ret := none) (by decide) rfl ?_
  intro p e s m args below meth c s₁ B hml hv
  obtain ⟨rfl, hsz, hP, hK, hD0⟩ := hv
  have hx := B.exec
  have hb := B.bytes
  have hr := B.returns
  have hts0 := atoms_spec (ws := xw yX13_forgets cX13_forgets 3 none) B.pre
  have hts : ∀ w ∈ xG, w.before _ s = true := fun w h => hts0 w (List.mem_cons_of_mem _ h)
  have hown : s.vm.findClass RX13 = some m.cls := findClass_of_methodNamed B.named
  have hlocks := B.notSynchronized
  subst hsz
  have hD := hD0.self (sz := s.heap.size)
  generalize hAe : va_A [(z0, .inr (13, xM g 0 0 0)), (g 1, .inl (cy 3, 8, .inl (fun _ => 0))), (g 2, .inl (cy 1, 8, .inl (fun _ => 0))), (g 4, .inl (cy 1, 8, .inl (fun _ => 0))), (g 5, .inl (cy 1, 8, .inl (fun _ => 0))), (g 6, .inl (cy 1, 8, .inl (fun _ => 0))), (g 7, .inl (cy 1, 8, .inl (fun _ => 0))), (g 8, .inl (cy 1, 8, .inl (fun _ => 0))), (g 10, .inl (cy 3, 8, .inl (fun _ => 0))), (g 11, .inl (cy 2, 8, .inr (.inl (fun _ => 0)))), (g 12, .inl (cy 2, 8, .inr (.inl (fun _ => 0)))), (g 13, .inl (cy 1, 8, .inl (fun _ => 0))), (g 15, .inl (cy 2, 8, .inr (.inl (fun _ => 0)))), (g 16, .inl (cy 1, 8, .inl (fun _ => 0))), (g 21, .inl (cy 1, 8, .inl (fun _ => 0))), (g 23, .inl (cy 1, 32, .inl (fun _ => 0))), (g 28, .inl (cy 1, 8, .inl (fun _ => 0))), (g 29, .inl (cy 1, 8, .inl (fun _ => 0)))] s.heap.size = A at hD ⊢
  have hA : ∀ q : Nat, s.heap.size ≤ q → A q := fun q h => by rw [← hAe]; exact Or.inr h
  have hS : va_S A s.heap s.heap [] := va_S.rf
  have hl := lv_entry ([.ref z0, .int h]) (n := 3) (Nat.le_of_ble_eq_true rfl)
  rw [lg_entry_eq]
  generalize (lg_sl ([.ref z0, .int h]) ++ List.replicate (3 - (lg_sl ([.ref z0, .int h])).length) Slot.unset).toArray = ls at hl ⊢
  have hl : lv_has ls 3 [(0, .ref z0), (1, .int h)] := hl
  refine lv_aload_n hx hb dX13_forgets_0 rfl (lv_at hl 0 rfl) ?_
  refine va_get (D := D) (ci := 13) (v := .ref (g 1)) (C := RX13) (T := TX13) (N := 68) hx hb hts iG13 hown hK.1 hP 0 rfl rfl 4 (by decide) (hts _ gw1126) (fun _ h9 => h9) rfl dX13_forgets_1 ?_
  refine lv_iload_n hx hb dX13_forgets_4 rfl (lv_at hl 1 rfl) ?_
  refine lv_iconst (v := 0) hx hb dX13_forgets_5 (by decide) ?_
  refine va_zast hx hb hK.1 hP hD hS 1 3 rfl rfl (xin8 h1 h2) dX13_forgets_6 (fun H locs hP hD hS => ?_)
  have hPD : ∃ f_1 : Nat → Int32, va_P D vwCl [(z0, .inr (13, xM g 0 0 0)), (g 1, .inl (cy 3, 8, .inl f_1)), (g 2, .inl (cy 1, 8, .inl (fun _ => 0))), (g 4, .inl (cy 1, 8, .inl (fun _ => 0))), (g 5, .inl (cy 1, 8, .inl (fun _ => 0))), (g 6, .inl (cy 1, 8, .inl (fun _ => 0))), (g 7, .inl (cy 1, 8, .inl (fun _ => 0))), (g 8, .inl (cy 1, 8, .inl (fun _ => 0))), (g 10, .inl (cy 3, 8, .inl (fun _ => 0))), (g 11, .inl (cy 2, 8, .inr (.inl (fun _ => 0)))), (g 12, .inl (cy 2, 8, .inr (.inl (fun _ => 0)))), (g 13, .inl (cy 1, 8, .inl (fun _ => 0))), (g 15, .inl (cy 2, 8, .inr (.inl (fun _ => 0)))), (g 16, .inl (cy 1, 8, .inl (fun _ => 0))), (g 21, .inl (cy 1, 8, .inl (fun _ => 0))), (g 23, .inl (cy 1, 32, .inl (fun _ => 0))), (g 28, .inl (cy 1, 8, .inl (fun _ => 0))), (g 29, .inl (cy 1, 8, .inl (fun _ => 0)))] H ∧ va_D A [(z0, .inr (13, xM g 0 0 0)), (g 1, .inl (cy 3, 8, .inl f_1)), (g 2, .inl (cy 1, 8, .inl (fun _ => 0))), (g 4, .inl (cy 1, 8, .inl (fun _ => 0))), (g 5, .inl (cy 1, 8, .inl (fun _ => 0))), (g 6, .inl (cy 1, 8, .inl (fun _ => 0))), (g 7, .inl (cy 1, 8, .inl (fun _ => 0))), (g 8, .inl (cy 1, 8, .inl (fun _ => 0))), (g 10, .inl (cy 3, 8, .inl (fun _ => 0))), (g 11, .inl (cy 2, 8, .inr (.inl (fun _ => 0)))), (g 12, .inl (cy 2, 8, .inr (.inl (fun _ => 0)))), (g 13, .inl (cy 1, 8, .inl (fun _ => 0))), (g 15, .inl (cy 2, 8, .inr (.inl (fun _ => 0)))), (g 16, .inl (cy 1, 8, .inl (fun _ => 0))), (g 21, .inl (cy 1, 8, .inl (fun _ => 0))), (g 23, .inl (cy 1, 32, .inl (fun _ => 0))), (g 28, .inl (cy 1, 8, .inl (fun _ => 0))), (g 29, .inl (cy 1, 8, .inl (fun _ => 0)))] := ⟨upd (fun _ => 0) (Int32.toNatClampNeg h) (vp_nar .boolean 0), hP, hD⟩
  clear hP hD
  obtain ⟨f_1, hP, hD⟩ := hPD
  refine lv_aload_n hx hb dX13_forgets_7 rfl (lv_at hl 0 rfl) ?_
  refine va_get (D := D) (ci := 13) (v := .ref (g 2)) (C := RX13) (T := TX13) (N := 68) hx hb hts iG13 hown hK.1 hP 0 rfl rfl 5 (by decide) (hts _ gw1127) (fun _ h9 => h9) rfl dX13_forgets_8 ?_
  refine lv_iload_n hx hb dX13_forgets_11 rfl (lv_at hl 1 rfl) ?_
  refine lv_iconst (v := 0) hx hb dX13_forgets_12 (by decide) ?_
  refine va_iast hx hb hK.1 hP hD hS 2 1 rfl rfl (xin8 h1 h2) dX13_forgets_13 (fun H locs hP hD hS => ?_)
  have hPD : ∃ f_2 : Nat → Int32, va_P D vwCl [(z0, .inr (13, xM g 0 0 0)), (g 1, .inl (cy 3, 8, .inl f_1)), (g 2, .inl (cy 1, 8, .inl f_2)), (g 4, .inl (cy 1, 8, .inl (fun _ => 0))), (g 5, .inl (cy 1, 8, .inl (fun _ => 0))), (g 6, .inl (cy 1, 8, .inl (fun _ => 0))), (g 7, .inl (cy 1, 8, .inl (fun _ => 0))), (g 8, .inl (cy 1, 8, .inl (fun _ => 0))), (g 10, .inl (cy 3, 8, .inl (fun _ => 0))), (g 11, .inl (cy 2, 8, .inr (.inl (fun _ => 0)))), (g 12, .inl (cy 2, 8, .inr (.inl (fun _ => 0)))), (g 13, .inl (cy 1, 8, .inl (fun _ => 0))), (g 15, .inl (cy 2, 8, .inr (.inl (fun _ => 0)))), (g 16, .inl (cy 1, 8, .inl (fun _ => 0))), (g 21, .inl (cy 1, 8, .inl (fun _ => 0))), (g 23, .inl (cy 1, 32, .inl (fun _ => 0))), (g 28, .inl (cy 1, 8, .inl (fun _ => 0))), (g 29, .inl (cy 1, 8, .inl (fun _ => 0)))] H ∧ va_D A [(z0, .inr (13, xM g 0 0 0)), (g 1, .inl (cy 3, 8, .inl f_1)), (g 2, .inl (cy 1, 8, .inl f_2)), (g 4, .inl (cy 1, 8, .inl (fun _ => 0))), (g 5, .inl (cy 1, 8, .inl (fun _ => 0))), (g 6, .inl (cy 1, 8, .inl (fun _ => 0))), (g 7, .inl (cy 1, 8, .inl (fun _ => 0))), (g 8, .inl (cy 1, 8, .inl (fun _ => 0))), (g 10, .inl (cy 3, 8, .inl (fun _ => 0))), (g 11, .inl (cy 2, 8, .inr (.inl (fun _ => 0)))), (g 12, .inl (cy 2, 8, .inr (.inl (fun _ => 0)))), (g 13, .inl (cy 1, 8, .inl (fun _ => 0))), (g 15, .inl (cy 2, 8, .inr (.inl (fun _ => 0)))), (g 16, .inl (cy 1, 8, .inl (fun _ => 0))), (g 21, .inl (cy 1, 8, .inl (fun _ => 0))), (g 23, .inl (cy 1, 32, .inl (fun _ => 0))), (g 28, .inl (cy 1, 8, .inl (fun _ => 0))), (g 29, .inl (cy 1, 8, .inl (fun _ => 0)))] := ⟨upd (fun _ => 0) (Int32.toNatClampNeg h) 0, hP, hD⟩
  clear hP hD
  obtain ⟨f_2, hP, hD⟩ := hPD
  refine lv_aload_n hx hb dX13_forgets_14 rfl (lv_at hl 0 rfl) ?_
  refine va_get (D := D) (ci := 13) (v := .ref (g 4)) (C := RX13) (T := TX13) (N := 68) hx hb hts iG13 hown hK.1 hP 0 rfl rfl 7 (by decide) (hts _ gw1129) (fun _ h9 => h9) rfl dX13_forgets_15 ?_
  refine lv_iload_n hx hb dX13_forgets_18 rfl (lv_at hl 1 rfl) ?_
  refine lv_iconst (v := 0) hx hb dX13_forgets_19 (by decide) ?_
  refine va_iast hx hb hK.1 hP hD hS 3 1 rfl rfl (xin8 h1 h2) dX13_forgets_20 (fun H locs hP hD hS => ?_)
  have hPD : ∃ f_3 : Nat → Int32, va_P D vwCl [(z0, .inr (13, xM g 0 0 0)), (g 1, .inl (cy 3, 8, .inl f_1)), (g 2, .inl (cy 1, 8, .inl f_2)), (g 4, .inl (cy 1, 8, .inl f_3)), (g 5, .inl (cy 1, 8, .inl (fun _ => 0))), (g 6, .inl (cy 1, 8, .inl (fun _ => 0))), (g 7, .inl (cy 1, 8, .inl (fun _ => 0))), (g 8, .inl (cy 1, 8, .inl (fun _ => 0))), (g 10, .inl (cy 3, 8, .inl (fun _ => 0))), (g 11, .inl (cy 2, 8, .inr (.inl (fun _ => 0)))), (g 12, .inl (cy 2, 8, .inr (.inl (fun _ => 0)))), (g 13, .inl (cy 1, 8, .inl (fun _ => 0))), (g 15, .inl (cy 2, 8, .inr (.inl (fun _ => 0)))), (g 16, .inl (cy 1, 8, .inl (fun _ => 0))), (g 21, .inl (cy 1, 8, .inl (fun _ => 0))), (g 23, .inl (cy 1, 32, .inl (fun _ => 0))), (g 28, .inl (cy 1, 8, .inl (fun _ => 0))), (g 29, .inl (cy 1, 8, .inl (fun _ => 0)))] H ∧ va_D A [(z0, .inr (13, xM g 0 0 0)), (g 1, .inl (cy 3, 8, .inl f_1)), (g 2, .inl (cy 1, 8, .inl f_2)), (g 4, .inl (cy 1, 8, .inl f_3)), (g 5, .inl (cy 1, 8, .inl (fun _ => 0))), (g 6, .inl (cy 1, 8, .inl (fun _ => 0))), (g 7, .inl (cy 1, 8, .inl (fun _ => 0))), (g 8, .inl (cy 1, 8, .inl (fun _ => 0))), (g 10, .inl (cy 3, 8, .inl (fun _ => 0))), (g 11, .inl (cy 2, 8, .inr (.inl (fun _ => 0)))), (g 12, .inl (cy 2, 8, .inr (.inl (fun _ => 0)))), (g 13, .inl (cy 1, 8, .inl (fun _ => 0))), (g 15, .inl (cy 2, 8, .inr (.inl (fun _ => 0)))), (g 16, .inl (cy 1, 8, .inl (fun _ => 0))), (g 21, .inl (cy 1, 8, .inl (fun _ => 0))), (g 23, .inl (cy 1, 32, .inl (fun _ => 0))), (g 28, .inl (cy 1, 8, .inl (fun _ => 0))), (g 29, .inl (cy 1, 8, .inl (fun _ => 0)))] := ⟨upd (fun _ => 0) (Int32.toNatClampNeg h) 0, hP, hD⟩
  clear hP hD
  obtain ⟨f_3, hP, hD⟩ := hPD
  refine lv_aload_n hx hb dX13_forgets_21 rfl (lv_at hl 0 rfl) ?_
  refine va_get (D := D) (ci := 13) (v := .ref (g 5)) (C := RX13) (T := TX13) (N := 68) hx hb hts iG13 hown hK.1 hP 0 rfl rfl 8 (by decide) (hts _ gw1130) (fun _ h9 => h9) rfl dX13_forgets_22 ?_
  refine lv_iload_n hx hb dX13_forgets_25 rfl (lv_at hl 1 rfl) ?_
  refine lv_iconst (v := 0) hx hb dX13_forgets_26 (by decide) ?_
  refine va_iast hx hb hK.1 hP hD hS 4 1 rfl rfl (xin8 h1 h2) dX13_forgets_27 (fun H locs hP hD hS => ?_)
  have hPD : ∃ f_4 : Nat → Int32, va_P D vwCl [(z0, .inr (13, xM g 0 0 0)), (g 1, .inl (cy 3, 8, .inl f_1)), (g 2, .inl (cy 1, 8, .inl f_2)), (g 4, .inl (cy 1, 8, .inl f_3)), (g 5, .inl (cy 1, 8, .inl f_4)), (g 6, .inl (cy 1, 8, .inl (fun _ => 0))), (g 7, .inl (cy 1, 8, .inl (fun _ => 0))), (g 8, .inl (cy 1, 8, .inl (fun _ => 0))), (g 10, .inl (cy 3, 8, .inl (fun _ => 0))), (g 11, .inl (cy 2, 8, .inr (.inl (fun _ => 0)))), (g 12, .inl (cy 2, 8, .inr (.inl (fun _ => 0)))), (g 13, .inl (cy 1, 8, .inl (fun _ => 0))), (g 15, .inl (cy 2, 8, .inr (.inl (fun _ => 0)))), (g 16, .inl (cy 1, 8, .inl (fun _ => 0))), (g 21, .inl (cy 1, 8, .inl (fun _ => 0))), (g 23, .inl (cy 1, 32, .inl (fun _ => 0))), (g 28, .inl (cy 1, 8, .inl (fun _ => 0))), (g 29, .inl (cy 1, 8, .inl (fun _ => 0)))] H ∧ va_D A [(z0, .inr (13, xM g 0 0 0)), (g 1, .inl (cy 3, 8, .inl f_1)), (g 2, .inl (cy 1, 8, .inl f_2)), (g 4, .inl (cy 1, 8, .inl f_3)), (g 5, .inl (cy 1, 8, .inl f_4)), (g 6, .inl (cy 1, 8, .inl (fun _ => 0))), (g 7, .inl (cy 1, 8, .inl (fun _ => 0))), (g 8, .inl (cy 1, 8, .inl (fun _ => 0))), (g 10, .inl (cy 3, 8, .inl (fun _ => 0))), (g 11, .inl (cy 2, 8, .inr (.inl (fun _ => 0)))), (g 12, .inl (cy 2, 8, .inr (.inl (fun _ => 0)))), (g 13, .inl (cy 1, 8, .inl (fun _ => 0))), (g 15, .inl (cy 2, 8, .inr (.inl (fun _ => 0)))), (g 16, .inl (cy 1, 8, .inl (fun _ => 0))), (g 21, .inl (cy 1, 8, .inl (fun _ => 0))), (g 23, .inl (cy 1, 32, .inl (fun _ => 0))), (g 28, .inl (cy 1, 8, .inl (fun _ => 0))), (g 29, .inl (cy 1, 8, .inl (fun _ => 0)))] := ⟨upd (fun _ => 0) (Int32.toNatClampNeg h) 0, hP, hD⟩
  clear hP hD
  obtain ⟨f_4, hP, hD⟩ := hPD
  refine lv_aload_n hx hb dX13_forgets_28 rfl (lv_at hl 0 rfl) ?_
  refine va_get (D := D) (ci := 13) (v := .ref (g 6)) (C := RX13) (T := TX13) (N := 68) hx hb hts iG13 hown hK.1 hP 0 rfl rfl 9 (by decide) (hts _ gw1131) (fun _ h9 => h9) rfl dX13_forgets_29 ?_
  refine lv_iload_n hx hb dX13_forgets_32 rfl (lv_at hl 1 rfl) ?_
  refine lv_iconst (v := 0) hx hb dX13_forgets_33 (by decide) ?_
  refine va_iast hx hb hK.1 hP hD hS 5 1 rfl rfl (xin8 h1 h2) dX13_forgets_34 (fun H locs hP hD hS => ?_)
  have hPD : ∃ f_5 : Nat → Int32, va_P D vwCl [(z0, .inr (13, xM g 0 0 0)), (g 1, .inl (cy 3, 8, .inl f_1)), (g 2, .inl (cy 1, 8, .inl f_2)), (g 4, .inl (cy 1, 8, .inl f_3)), (g 5, .inl (cy 1, 8, .inl f_4)), (g 6, .inl (cy 1, 8, .inl f_5)), (g 7, .inl (cy 1, 8, .inl (fun _ => 0))), (g 8, .inl (cy 1, 8, .inl (fun _ => 0))), (g 10, .inl (cy 3, 8, .inl (fun _ => 0))), (g 11, .inl (cy 2, 8, .inr (.inl (fun _ => 0)))), (g 12, .inl (cy 2, 8, .inr (.inl (fun _ => 0)))), (g 13, .inl (cy 1, 8, .inl (fun _ => 0))), (g 15, .inl (cy 2, 8, .inr (.inl (fun _ => 0)))), (g 16, .inl (cy 1, 8, .inl (fun _ => 0))), (g 21, .inl (cy 1, 8, .inl (fun _ => 0))), (g 23, .inl (cy 1, 32, .inl (fun _ => 0))), (g 28, .inl (cy 1, 8, .inl (fun _ => 0))), (g 29, .inl (cy 1, 8, .inl (fun _ => 0)))] H ∧ va_D A [(z0, .inr (13, xM g 0 0 0)), (g 1, .inl (cy 3, 8, .inl f_1)), (g 2, .inl (cy 1, 8, .inl f_2)), (g 4, .inl (cy 1, 8, .inl f_3)), (g 5, .inl (cy 1, 8, .inl f_4)), (g 6, .inl (cy 1, 8, .inl f_5)), (g 7, .inl (cy 1, 8, .inl (fun _ => 0))), (g 8, .inl (cy 1, 8, .inl (fun _ => 0))), (g 10, .inl (cy 3, 8, .inl (fun _ => 0))), (g 11, .inl (cy 2, 8, .inr (.inl (fun _ => 0)))), (g 12, .inl (cy 2, 8, .inr (.inl (fun _ => 0)))), (g 13, .inl (cy 1, 8, .inl (fun _ => 0))), (g 15, .inl (cy 2, 8, .inr (.inl (fun _ => 0)))), (g 16, .inl (cy 1, 8, .inl (fun _ => 0))), (g 21, .inl (cy 1, 8, .inl (fun _ => 0))), (g 23, .inl (cy 1, 32, .inl (fun _ => 0))), (g 28, .inl (cy 1, 8, .inl (fun _ => 0))), (g 29, .inl (cy 1, 8, .inl (fun _ => 0)))] := ⟨upd (fun _ => 0) (Int32.toNatClampNeg h) 0, hP, hD⟩
  clear hP hD
  obtain ⟨f_5, hP, hD⟩ := hPD
  refine lv_aload_n hx hb dX13_forgets_35 rfl (lv_at hl 0 rfl) ?_
  refine va_get (D := D) (ci := 13) (v := .ref (g 7)) (C := RX13) (T := TX13) (N := 68) hx hb hts iG13 hown hK.1 hP 0 rfl rfl 10 (by decide) (hts _ gw1132) (fun _ h9 => h9) rfl dX13_forgets_36 ?_
  refine lv_iload_n hx hb dX13_forgets_39 rfl (lv_at hl 1 rfl) ?_
  refine lv_iconst (v := 0) hx hb dX13_forgets_40 (by decide) ?_
  refine va_iast hx hb hK.1 hP hD hS 6 1 rfl rfl (xin8 h1 h2) dX13_forgets_41 (fun H locs hP hD hS => ?_)
  have hPD : ∃ f_6 : Nat → Int32, va_P D vwCl [(z0, .inr (13, xM g 0 0 0)), (g 1, .inl (cy 3, 8, .inl f_1)), (g 2, .inl (cy 1, 8, .inl f_2)), (g 4, .inl (cy 1, 8, .inl f_3)), (g 5, .inl (cy 1, 8, .inl f_4)), (g 6, .inl (cy 1, 8, .inl f_5)), (g 7, .inl (cy 1, 8, .inl f_6)), (g 8, .inl (cy 1, 8, .inl (fun _ => 0))), (g 10, .inl (cy 3, 8, .inl (fun _ => 0))), (g 11, .inl (cy 2, 8, .inr (.inl (fun _ => 0)))), (g 12, .inl (cy 2, 8, .inr (.inl (fun _ => 0)))), (g 13, .inl (cy 1, 8, .inl (fun _ => 0))), (g 15, .inl (cy 2, 8, .inr (.inl (fun _ => 0)))), (g 16, .inl (cy 1, 8, .inl (fun _ => 0))), (g 21, .inl (cy 1, 8, .inl (fun _ => 0))), (g 23, .inl (cy 1, 32, .inl (fun _ => 0))), (g 28, .inl (cy 1, 8, .inl (fun _ => 0))), (g 29, .inl (cy 1, 8, .inl (fun _ => 0)))] H ∧ va_D A [(z0, .inr (13, xM g 0 0 0)), (g 1, .inl (cy 3, 8, .inl f_1)), (g 2, .inl (cy 1, 8, .inl f_2)), (g 4, .inl (cy 1, 8, .inl f_3)), (g 5, .inl (cy 1, 8, .inl f_4)), (g 6, .inl (cy 1, 8, .inl f_5)), (g 7, .inl (cy 1, 8, .inl f_6)), (g 8, .inl (cy 1, 8, .inl (fun _ => 0))), (g 10, .inl (cy 3, 8, .inl (fun _ => 0))), (g 11, .inl (cy 2, 8, .inr (.inl (fun _ => 0)))), (g 12, .inl (cy 2, 8, .inr (.inl (fun _ => 0)))), (g 13, .inl (cy 1, 8, .inl (fun _ => 0))), (g 15, .inl (cy 2, 8, .inr (.inl (fun _ => 0)))), (g 16, .inl (cy 1, 8, .inl (fun _ => 0))), (g 21, .inl (cy 1, 8, .inl (fun _ => 0))), (g 23, .inl (cy 1, 32, .inl (fun _ => 0))), (g 28, .inl (cy 1, 8, .inl (fun _ => 0))), (g 29, .inl (cy 1, 8, .inl (fun _ => 0)))] := ⟨upd (fun _ => 0) (Int32.toNatClampNeg h) 0, hP, hD⟩
  clear hP hD
  obtain ⟨f_6, hP, hD⟩ := hPD
  refine lv_aload_n hx hb dX13_forgets_42 rfl (lv_at hl 0 rfl) ?_
  refine va_get (D := D) (ci := 13) (v := .ref (g 8)) (C := RX13) (T := TX13) (N := 68) hx hb hts iG13 hown hK.1 hP 0 rfl rfl 11 (by decide) (hts _ gw1133) (fun _ h9 => h9) rfl dX13_forgets_43 ?_
  refine lv_iload_n hx hb dX13_forgets_46 rfl (lv_at hl 1 rfl) ?_
  refine lv_iconst (v := 0) hx hb dX13_forgets_47 (by decide) ?_
  refine va_iast hx hb hK.1 hP hD hS 7 1 rfl rfl (xin8 h1 h2) dX13_forgets_48 (fun H locs hP hD hS => ?_)
  have hPD : ∃ f_7 : Nat → Int32, va_P D vwCl [(z0, .inr (13, xM g 0 0 0)), (g 1, .inl (cy 3, 8, .inl f_1)), (g 2, .inl (cy 1, 8, .inl f_2)), (g 4, .inl (cy 1, 8, .inl f_3)), (g 5, .inl (cy 1, 8, .inl f_4)), (g 6, .inl (cy 1, 8, .inl f_5)), (g 7, .inl (cy 1, 8, .inl f_6)), (g 8, .inl (cy 1, 8, .inl f_7)), (g 10, .inl (cy 3, 8, .inl (fun _ => 0))), (g 11, .inl (cy 2, 8, .inr (.inl (fun _ => 0)))), (g 12, .inl (cy 2, 8, .inr (.inl (fun _ => 0)))), (g 13, .inl (cy 1, 8, .inl (fun _ => 0))), (g 15, .inl (cy 2, 8, .inr (.inl (fun _ => 0)))), (g 16, .inl (cy 1, 8, .inl (fun _ => 0))), (g 21, .inl (cy 1, 8, .inl (fun _ => 0))), (g 23, .inl (cy 1, 32, .inl (fun _ => 0))), (g 28, .inl (cy 1, 8, .inl (fun _ => 0))), (g 29, .inl (cy 1, 8, .inl (fun _ => 0)))] H ∧ va_D A [(z0, .inr (13, xM g 0 0 0)), (g 1, .inl (cy 3, 8, .inl f_1)), (g 2, .inl (cy 1, 8, .inl f_2)), (g 4, .inl (cy 1, 8, .inl f_3)), (g 5, .inl (cy 1, 8, .inl f_4)), (g 6, .inl (cy 1, 8, .inl f_5)), (g 7, .inl (cy 1, 8, .inl f_6)), (g 8, .inl (cy 1, 8, .inl f_7)), (g 10, .inl (cy 3, 8, .inl (fun _ => 0))), (g 11, .inl (cy 2, 8, .inr (.inl (fun _ => 0)))), (g 12, .inl (cy 2, 8, .inr (.inl (fun _ => 0)))), (g 13, .inl (cy 1, 8, .inl (fun _ => 0))), (g 15, .inl (cy 2, 8, .inr (.inl (fun _ => 0)))), (g 16, .inl (cy 1, 8, .inl (fun _ => 0))), (g 21, .inl (cy 1, 8, .inl (fun _ => 0))), (g 23, .inl (cy 1, 32, .inl (fun _ => 0))), (g 28, .inl (cy 1, 8, .inl (fun _ => 0))), (g 29, .inl (cy 1, 8, .inl (fun _ => 0)))] := ⟨upd (fun _ => 0) (Int32.toNatClampNeg h) 0, hP, hD⟩
  clear hP hD
  obtain ⟨f_7, hP, hD⟩ := hPD
  refine lv_aload_n hx hb dX13_forgets_49 rfl (lv_at hl 0 rfl) ?_
  refine va_get (D := D) (ci := 13) (v := .ref (g 10)) (C := RX13) (T := TX13) (N := 68) hx hb hts iG13 hown hK.1 hP 0 rfl rfl 13 (by decide) (hts _ gw1135) (fun _ h9 => h9) rfl dX13_forgets_50 ?_
  refine lv_iload_n hx hb dX13_forgets_53 rfl (lv_at hl 1 rfl) ?_
  refine lv_iconst (v := 0) hx hb dX13_forgets_54 (by decide) ?_
  refine va_zast hx hb hK.1 hP hD hS 8 3 rfl rfl (xin8 h1 h2) dX13_forgets_55 (fun H locs hP hD hS => ?_)
  have hPD : ∃ f_8 : Nat → Int32, va_P D vwCl [(z0, .inr (13, xM g 0 0 0)), (g 1, .inl (cy 3, 8, .inl f_1)), (g 2, .inl (cy 1, 8, .inl f_2)), (g 4, .inl (cy 1, 8, .inl f_3)), (g 5, .inl (cy 1, 8, .inl f_4)), (g 6, .inl (cy 1, 8, .inl f_5)), (g 7, .inl (cy 1, 8, .inl f_6)), (g 8, .inl (cy 1, 8, .inl f_7)), (g 10, .inl (cy 3, 8, .inl f_8)), (g 11, .inl (cy 2, 8, .inr (.inl (fun _ => 0)))), (g 12, .inl (cy 2, 8, .inr (.inl (fun _ => 0)))), (g 13, .inl (cy 1, 8, .inl (fun _ => 0))), (g 15, .inl (cy 2, 8, .inr (.inl (fun _ => 0)))), (g 16, .inl (cy 1, 8, .inl (fun _ => 0))), (g 21, .inl (cy 1, 8, .inl (fun _ => 0))), (g 23, .inl (cy 1, 32, .inl (fun _ => 0))), (g 28, .inl (cy 1, 8, .inl (fun _ => 0))), (g 29, .inl (cy 1, 8, .inl (fun _ => 0)))] H ∧ va_D A [(z0, .inr (13, xM g 0 0 0)), (g 1, .inl (cy 3, 8, .inl f_1)), (g 2, .inl (cy 1, 8, .inl f_2)), (g 4, .inl (cy 1, 8, .inl f_3)), (g 5, .inl (cy 1, 8, .inl f_4)), (g 6, .inl (cy 1, 8, .inl f_5)), (g 7, .inl (cy 1, 8, .inl f_6)), (g 8, .inl (cy 1, 8, .inl f_7)), (g 10, .inl (cy 3, 8, .inl f_8)), (g 11, .inl (cy 2, 8, .inr (.inl (fun _ => 0)))), (g 12, .inl (cy 2, 8, .inr (.inl (fun _ => 0)))), (g 13, .inl (cy 1, 8, .inl (fun _ => 0))), (g 15, .inl (cy 2, 8, .inr (.inl (fun _ => 0)))), (g 16, .inl (cy 1, 8, .inl (fun _ => 0))), (g 21, .inl (cy 1, 8, .inl (fun _ => 0))), (g 23, .inl (cy 1, 32, .inl (fun _ => 0))), (g 28, .inl (cy 1, 8, .inl (fun _ => 0))), (g 29, .inl (cy 1, 8, .inl (fun _ => 0)))] := ⟨upd (fun _ => 0) (Int32.toNatClampNeg h) (vp_nar .boolean 0), hP, hD⟩
  clear hP hD
  obtain ⟨f_8, hP, hD⟩ := hPD
  refine lv_aload_n hx hb dX13_forgets_56 rfl (lv_at hl 0 rfl) ?_
  refine va_get (D := D) (ci := 13) (v := .ref (g 11)) (C := RX13) (T := TX13) (N := 68) hx hb hts iG13 hown hK.1 hP 0 rfl rfl 14 (by decide) (hts _ gw1136) (fun _ h9 => h9) rfl dX13_forgets_57 ?_
  refine lv_iload_n hx hb dX13_forgets_60 rfl (lv_at hl 1 rfl) ?_
  refine lv_ldc2 (v := 9223372036854775807) hx hb hown (hts _ gw1411) dX13_forgets_61 ?_
  refine va_last hx hb hK.1 hP hD hS 9 2 rfl rfl (xin8 h1 h2) dX13_forgets_64 (fun H locs hP hD hS => ?_)
  have hPD : ∃ f_9 : Nat → Int64, va_P D vwCl [(z0, .inr (13, xM g 0 0 0)), (g 1, .inl (cy 3, 8, .inl f_1)), (g 2, .inl (cy 1, 8, .inl f_2)), (g 4, .inl (cy 1, 8, .inl f_3)), (g 5, .inl (cy 1, 8, .inl f_4)), (g 6, .inl (cy 1, 8, .inl f_5)), (g 7, .inl (cy 1, 8, .inl f_6)), (g 8, .inl (cy 1, 8, .inl f_7)), (g 10, .inl (cy 3, 8, .inl f_8)), (g 11, .inl (cy 2, 8, .inr (.inl f_9))), (g 12, .inl (cy 2, 8, .inr (.inl (fun _ => 0)))), (g 13, .inl (cy 1, 8, .inl (fun _ => 0))), (g 15, .inl (cy 2, 8, .inr (.inl (fun _ => 0)))), (g 16, .inl (cy 1, 8, .inl (fun _ => 0))), (g 21, .inl (cy 1, 8, .inl (fun _ => 0))), (g 23, .inl (cy 1, 32, .inl (fun _ => 0))), (g 28, .inl (cy 1, 8, .inl (fun _ => 0))), (g 29, .inl (cy 1, 8, .inl (fun _ => 0)))] H ∧ va_D A [(z0, .inr (13, xM g 0 0 0)), (g 1, .inl (cy 3, 8, .inl f_1)), (g 2, .inl (cy 1, 8, .inl f_2)), (g 4, .inl (cy 1, 8, .inl f_3)), (g 5, .inl (cy 1, 8, .inl f_4)), (g 6, .inl (cy 1, 8, .inl f_5)), (g 7, .inl (cy 1, 8, .inl f_6)), (g 8, .inl (cy 1, 8, .inl f_7)), (g 10, .inl (cy 3, 8, .inl f_8)), (g 11, .inl (cy 2, 8, .inr (.inl f_9))), (g 12, .inl (cy 2, 8, .inr (.inl (fun _ => 0)))), (g 13, .inl (cy 1, 8, .inl (fun _ => 0))), (g 15, .inl (cy 2, 8, .inr (.inl (fun _ => 0)))), (g 16, .inl (cy 1, 8, .inl (fun _ => 0))), (g 21, .inl (cy 1, 8, .inl (fun _ => 0))), (g 23, .inl (cy 1, 32, .inl (fun _ => 0))), (g 28, .inl (cy 1, 8, .inl (fun _ => 0))), (g 29, .inl (cy 1, 8, .inl (fun _ => 0)))] := ⟨vp_updL (fun _ => 0) (Int32.toNatClampNeg h) 9223372036854775807, hP, hD⟩
  clear hP hD
  obtain ⟨f_9, hP, hD⟩ := hPD
  refine lv_aload_n hx hb dX13_forgets_65 rfl (lv_at hl 0 rfl) ?_
  refine va_get (D := D) (ci := 13) (v := .ref (g 12)) (C := RX13) (T := TX13) (N := 68) hx hb hts iG13 hown hK.1 hP 0 rfl rfl 15 (by decide) (hts _ gw1137) (fun _ h9 => h9) rfl dX13_forgets_66 ?_
  refine lv_iload_n hx hb dX13_forgets_69 rfl (lv_at hl 1 rfl) ?_
  refine lv_ldc2 (v := 9223372036854775807) hx hb hown (hts _ gw1411) dX13_forgets_70 ?_
  refine va_last hx hb hK.1 hP hD hS 10 2 rfl rfl (xin8 h1 h2) dX13_forgets_73 (fun H locs hP hD hS => ?_)
  have hPD : ∃ f_10 : Nat → Int64, va_P D vwCl [(z0, .inr (13, xM g 0 0 0)), (g 1, .inl (cy 3, 8, .inl f_1)), (g 2, .inl (cy 1, 8, .inl f_2)), (g 4, .inl (cy 1, 8, .inl f_3)), (g 5, .inl (cy 1, 8, .inl f_4)), (g 6, .inl (cy 1, 8, .inl f_5)), (g 7, .inl (cy 1, 8, .inl f_6)), (g 8, .inl (cy 1, 8, .inl f_7)), (g 10, .inl (cy 3, 8, .inl f_8)), (g 11, .inl (cy 2, 8, .inr (.inl f_9))), (g 12, .inl (cy 2, 8, .inr (.inl f_10))), (g 13, .inl (cy 1, 8, .inl (fun _ => 0))), (g 15, .inl (cy 2, 8, .inr (.inl (fun _ => 0)))), (g 16, .inl (cy 1, 8, .inl (fun _ => 0))), (g 21, .inl (cy 1, 8, .inl (fun _ => 0))), (g 23, .inl (cy 1, 32, .inl (fun _ => 0))), (g 28, .inl (cy 1, 8, .inl (fun _ => 0))), (g 29, .inl (cy 1, 8, .inl (fun _ => 0)))] H ∧ va_D A [(z0, .inr (13, xM g 0 0 0)), (g 1, .inl (cy 3, 8, .inl f_1)), (g 2, .inl (cy 1, 8, .inl f_2)), (g 4, .inl (cy 1, 8, .inl f_3)), (g 5, .inl (cy 1, 8, .inl f_4)), (g 6, .inl (cy 1, 8, .inl f_5)), (g 7, .inl (cy 1, 8, .inl f_6)), (g 8, .inl (cy 1, 8, .inl f_7)), (g 10, .inl (cy 3, 8, .inl f_8)), (g 11, .inl (cy 2, 8, .inr (.inl f_9))), (g 12, .inl (cy 2, 8, .inr (.inl f_10))), (g 13, .inl (cy 1, 8, .inl (fun _ => 0))), (g 15, .inl (cy 2, 8, .inr (.inl (fun _ => 0)))), (g 16, .inl (cy 1, 8, .inl (fun _ => 0))), (g 21, .inl (cy 1, 8, .inl (fun _ => 0))), (g 23, .inl (cy 1, 32, .inl (fun _ => 0))), (g 28, .inl (cy 1, 8, .inl (fun _ => 0))), (g 29, .inl (cy 1, 8, .inl (fun _ => 0)))] := ⟨vp_updL (fun _ => 0) (Int32.toNatClampNeg h) 9223372036854775807, hP, hD⟩
  clear hP hD
  obtain ⟨f_10, hP, hD⟩ := hPD
  refine lv_aload_n hx hb dX13_forgets_74 rfl (lv_at hl 0 rfl) ?_
  refine va_get (D := D) (ci := 13) (v := .ref (g 13)) (C := RX13) (T := TX13) (N := 68) hx hb hts iG13 hown hK.1 hP 0 rfl rfl 16 (by decide) (hts _ gw1138) (fun _ h9 => h9) rfl dX13_forgets_75 ?_
  refine lv_iload_n hx hb dX13_forgets_78 rfl (lv_at hl 1 rfl) ?_
  refine lv_iconst (v := 0) hx hb dX13_forgets_79 (by decide) ?_
  refine va_iast hx hb hK.1 hP hD hS 11 1 rfl rfl (xin8 h1 h2) dX13_forgets_80 (fun H locs hP hD hS => ?_)
  have hPD : ∃ f_11 : Nat → Int32, va_P D vwCl [(z0, .inr (13, xM g 0 0 0)), (g 1, .inl (cy 3, 8, .inl f_1)), (g 2, .inl (cy 1, 8, .inl f_2)), (g 4, .inl (cy 1, 8, .inl f_3)), (g 5, .inl (cy 1, 8, .inl f_4)), (g 6, .inl (cy 1, 8, .inl f_5)), (g 7, .inl (cy 1, 8, .inl f_6)), (g 8, .inl (cy 1, 8, .inl f_7)), (g 10, .inl (cy 3, 8, .inl f_8)), (g 11, .inl (cy 2, 8, .inr (.inl f_9))), (g 12, .inl (cy 2, 8, .inr (.inl f_10))), (g 13, .inl (cy 1, 8, .inl f_11)), (g 15, .inl (cy 2, 8, .inr (.inl (fun _ => 0)))), (g 16, .inl (cy 1, 8, .inl (fun _ => 0))), (g 21, .inl (cy 1, 8, .inl (fun _ => 0))), (g 23, .inl (cy 1, 32, .inl (fun _ => 0))), (g 28, .inl (cy 1, 8, .inl (fun _ => 0))), (g 29, .inl (cy 1, 8, .inl (fun _ => 0)))] H ∧ va_D A [(z0, .inr (13, xM g 0 0 0)), (g 1, .inl (cy 3, 8, .inl f_1)), (g 2, .inl (cy 1, 8, .inl f_2)), (g 4, .inl (cy 1, 8, .inl f_3)), (g 5, .inl (cy 1, 8, .inl f_4)), (g 6, .inl (cy 1, 8, .inl f_5)), (g 7, .inl (cy 1, 8, .inl f_6)), (g 8, .inl (cy 1, 8, .inl f_7)), (g 10, .inl (cy 3, 8, .inl f_8)), (g 11, .inl (cy 2, 8, .inr (.inl f_9))), (g 12, .inl (cy 2, 8, .inr (.inl f_10))), (g 13, .inl (cy 1, 8, .inl f_11)), (g 15, .inl (cy 2, 8, .inr (.inl (fun _ => 0)))), (g 16, .inl (cy 1, 8, .inl (fun _ => 0))), (g 21, .inl (cy 1, 8, .inl (fun _ => 0))), (g 23, .inl (cy 1, 32, .inl (fun _ => 0))), (g 28, .inl (cy 1, 8, .inl (fun _ => 0))), (g 29, .inl (cy 1, 8, .inl (fun _ => 0)))] := ⟨upd (fun _ => 0) (Int32.toNatClampNeg h) 0, hP, hD⟩
  clear hP hD
  obtain ⟨f_11, hP, hD⟩ := hPD
  refine lv_aload_n hx hb dX13_forgets_81 rfl (lv_at hl 0 rfl) ?_
  refine va_get (D := D) (ci := 13) (v := .ref (g 15)) (C := RX13) (T := TX13) (N := 68) hx hb hts iG13 hown hK.1 hP 0 rfl rfl 18 (by decide) (hts _ gw1140) (fun _ h9 => h9) rfl dX13_forgets_82 ?_
  refine lv_iload_n hx hb dX13_forgets_85 rfl (lv_at hl 1 rfl) ?_
  refine lv_ldc2 (v := 9223372036854775807) hx hb hown (hts _ gw1411) dX13_forgets_86 ?_
  refine va_last hx hb hK.1 hP hD hS 12 2 rfl rfl (xin8 h1 h2) dX13_forgets_89 (fun H locs hP hD hS => ?_)
  have hPD : ∃ f_12 : Nat → Int64, va_P D vwCl [(z0, .inr (13, xM g 0 0 0)), (g 1, .inl (cy 3, 8, .inl f_1)), (g 2, .inl (cy 1, 8, .inl f_2)), (g 4, .inl (cy 1, 8, .inl f_3)), (g 5, .inl (cy 1, 8, .inl f_4)), (g 6, .inl (cy 1, 8, .inl f_5)), (g 7, .inl (cy 1, 8, .inl f_6)), (g 8, .inl (cy 1, 8, .inl f_7)), (g 10, .inl (cy 3, 8, .inl f_8)), (g 11, .inl (cy 2, 8, .inr (.inl f_9))), (g 12, .inl (cy 2, 8, .inr (.inl f_10))), (g 13, .inl (cy 1, 8, .inl f_11)), (g 15, .inl (cy 2, 8, .inr (.inl f_12))), (g 16, .inl (cy 1, 8, .inl (fun _ => 0))), (g 21, .inl (cy 1, 8, .inl (fun _ => 0))), (g 23, .inl (cy 1, 32, .inl (fun _ => 0))), (g 28, .inl (cy 1, 8, .inl (fun _ => 0))), (g 29, .inl (cy 1, 8, .inl (fun _ => 0)))] H ∧ va_D A [(z0, .inr (13, xM g 0 0 0)), (g 1, .inl (cy 3, 8, .inl f_1)), (g 2, .inl (cy 1, 8, .inl f_2)), (g 4, .inl (cy 1, 8, .inl f_3)), (g 5, .inl (cy 1, 8, .inl f_4)), (g 6, .inl (cy 1, 8, .inl f_5)), (g 7, .inl (cy 1, 8, .inl f_6)), (g 8, .inl (cy 1, 8, .inl f_7)), (g 10, .inl (cy 3, 8, .inl f_8)), (g 11, .inl (cy 2, 8, .inr (.inl f_9))), (g 12, .inl (cy 2, 8, .inr (.inl f_10))), (g 13, .inl (cy 1, 8, .inl f_11)), (g 15, .inl (cy 2, 8, .inr (.inl f_12))), (g 16, .inl (cy 1, 8, .inl (fun _ => 0))), (g 21, .inl (cy 1, 8, .inl (fun _ => 0))), (g 23, .inl (cy 1, 32, .inl (fun _ => 0))), (g 28, .inl (cy 1, 8, .inl (fun _ => 0))), (g 29, .inl (cy 1, 8, .inl (fun _ => 0)))] := ⟨vp_updL (fun _ => 0) (Int32.toNatClampNeg h) 9223372036854775807, hP, hD⟩
  clear hP hD
  obtain ⟨f_12, hP, hD⟩ := hPD
  refine lv_aload_n hx hb dX13_forgets_90 rfl (lv_at hl 0 rfl) ?_
  refine va_get (D := D) (ci := 13) (v := .ref (g 16)) (C := RX13) (T := TX13) (N := 68) hx hb hts iG13 hown hK.1 hP 0 rfl rfl 19 (by decide) (hts _ gw1141) (fun _ h9 => h9) rfl dX13_forgets_91 ?_
  refine lv_iload_n hx hb dX13_forgets_94 rfl (lv_at hl 1 rfl) ?_
  refine lv_iconst (v := 1) hx hb dX13_forgets_95 (by decide) ?_
  refine va_iast hx hb hK.1 hP hD hS 13 1 rfl rfl (xin8 h1 h2) dX13_forgets_96 (fun H locs hP hD hS => ?_)
  have hPD : ∃ f_13 : Nat → Int32, va_P D vwCl [(z0, .inr (13, xM g 0 0 0)), (g 1, .inl (cy 3, 8, .inl f_1)), (g 2, .inl (cy 1, 8, .inl f_2)), (g 4, .inl (cy 1, 8, .inl f_3)), (g 5, .inl (cy 1, 8, .inl f_4)), (g 6, .inl (cy 1, 8, .inl f_5)), (g 7, .inl (cy 1, 8, .inl f_6)), (g 8, .inl (cy 1, 8, .inl f_7)), (g 10, .inl (cy 3, 8, .inl f_8)), (g 11, .inl (cy 2, 8, .inr (.inl f_9))), (g 12, .inl (cy 2, 8, .inr (.inl f_10))), (g 13, .inl (cy 1, 8, .inl f_11)), (g 15, .inl (cy 2, 8, .inr (.inl f_12))), (g 16, .inl (cy 1, 8, .inl f_13)), (g 21, .inl (cy 1, 8, .inl (fun _ => 0))), (g 23, .inl (cy 1, 32, .inl (fun _ => 0))), (g 28, .inl (cy 1, 8, .inl (fun _ => 0))), (g 29, .inl (cy 1, 8, .inl (fun _ => 0)))] H ∧ va_D A [(z0, .inr (13, xM g 0 0 0)), (g 1, .inl (cy 3, 8, .inl f_1)), (g 2, .inl (cy 1, 8, .inl f_2)), (g 4, .inl (cy 1, 8, .inl f_3)), (g 5, .inl (cy 1, 8, .inl f_4)), (g 6, .inl (cy 1, 8, .inl f_5)), (g 7, .inl (cy 1, 8, .inl f_6)), (g 8, .inl (cy 1, 8, .inl f_7)), (g 10, .inl (cy 3, 8, .inl f_8)), (g 11, .inl (cy 2, 8, .inr (.inl f_9))), (g 12, .inl (cy 2, 8, .inr (.inl f_10))), (g 13, .inl (cy 1, 8, .inl f_11)), (g 15, .inl (cy 2, 8, .inr (.inl f_12))), (g 16, .inl (cy 1, 8, .inl f_13)), (g 21, .inl (cy 1, 8, .inl (fun _ => 0))), (g 23, .inl (cy 1, 32, .inl (fun _ => 0))), (g 28, .inl (cy 1, 8, .inl (fun _ => 0))), (g 29, .inl (cy 1, 8, .inl (fun _ => 0)))] := ⟨upd (fun _ => 0) (Int32.toNatClampNeg h) 1, hP, hD⟩
  clear hP hD
  obtain ⟨f_13, hP, hD⟩ := hPD
  refine lv_aload_n hx hb dX13_forgets_97 rfl (lv_at hl 0 rfl) ?_
  refine va_get (D := D) (ci := 13) (v := .ref (g 21)) (C := RX13) (T := TX13) (N := 68) hx hb hts iG13 hown hK.1 hP 0 rfl rfl 24 (by decide) (hts _ gw1146) (fun _ h9 => h9) rfl dX13_forgets_98 ?_
  refine lv_iload_n hx hb dX13_forgets_101 rfl (lv_at hl 1 rfl) ?_
  refine lv_iconst (v := 0) hx hb dX13_forgets_102 (by decide) ?_
  refine va_iast hx hb hK.1 hP hD hS 14 1 rfl rfl (xin8 h1 h2) dX13_forgets_103 (fun H locs hP hD hS => ?_)
  have hPD : ∃ f_14 : Nat → Int32, va_P D vwCl [(z0, .inr (13, xM g 0 0 0)), (g 1, .inl (cy 3, 8, .inl f_1)), (g 2, .inl (cy 1, 8, .inl f_2)), (g 4, .inl (cy 1, 8, .inl f_3)), (g 5, .inl (cy 1, 8, .inl f_4)), (g 6, .inl (cy 1, 8, .inl f_5)), (g 7, .inl (cy 1, 8, .inl f_6)), (g 8, .inl (cy 1, 8, .inl f_7)), (g 10, .inl (cy 3, 8, .inl f_8)), (g 11, .inl (cy 2, 8, .inr (.inl f_9))), (g 12, .inl (cy 2, 8, .inr (.inl f_10))), (g 13, .inl (cy 1, 8, .inl f_11)), (g 15, .inl (cy 2, 8, .inr (.inl f_12))), (g 16, .inl (cy 1, 8, .inl f_13)), (g 21, .inl (cy 1, 8, .inl f_14)), (g 23, .inl (cy 1, 32, .inl (fun _ => 0))), (g 28, .inl (cy 1, 8, .inl (fun _ => 0))), (g 29, .inl (cy 1, 8, .inl (fun _ => 0)))] H ∧ va_D A [(z0, .inr (13, xM g 0 0 0)), (g 1, .inl (cy 3, 8, .inl f_1)), (g 2, .inl (cy 1, 8, .inl f_2)), (g 4, .inl (cy 1, 8, .inl f_3)), (g 5, .inl (cy 1, 8, .inl f_4)), (g 6, .inl (cy 1, 8, .inl f_5)), (g 7, .inl (cy 1, 8, .inl f_6)), (g 8, .inl (cy 1, 8, .inl f_7)), (g 10, .inl (cy 3, 8, .inl f_8)), (g 11, .inl (cy 2, 8, .inr (.inl f_9))), (g 12, .inl (cy 2, 8, .inr (.inl f_10))), (g 13, .inl (cy 1, 8, .inl f_11)), (g 15, .inl (cy 2, 8, .inr (.inl f_12))), (g 16, .inl (cy 1, 8, .inl f_13)), (g 21, .inl (cy 1, 8, .inl f_14)), (g 23, .inl (cy 1, 32, .inl (fun _ => 0))), (g 28, .inl (cy 1, 8, .inl (fun _ => 0))), (g 29, .inl (cy 1, 8, .inl (fun _ => 0)))] := ⟨upd (fun _ => 0) (Int32.toNatClampNeg h) 0, hP, hD⟩
  clear hP hD
  obtain ⟨f_14, hP, hD⟩ := hPD
  refine lv_aload_n hx hb dX13_forgets_104 rfl (lv_at hl 0 rfl) ?_
  refine va_get (D := D) (ci := 13) (v := .ref (g 28)) (C := RX13) (T := TX13) (N := 68) hx hb hts iG13 hown hK.1 hP 0 rfl rfl 31 (by decide) (hts _ gw1153) (fun _ h9 => h9) rfl dX13_forgets_105 ?_
  refine lv_iload_n hx hb dX13_forgets_108 rfl (lv_at hl 1 rfl) ?_
  refine lv_iconst (v := 0) hx hb dX13_forgets_109 (by decide) ?_
  refine va_iast hx hb hK.1 hP hD hS 16 1 rfl rfl (xin8 h1 h2) dX13_forgets_110 (fun H locs hP hD hS => ?_)
  have hPD : ∃ f_15 : Nat → Int32, va_P D vwCl [(z0, .inr (13, xM g 0 0 0)), (g 1, .inl (cy 3, 8, .inl f_1)), (g 2, .inl (cy 1, 8, .inl f_2)), (g 4, .inl (cy 1, 8, .inl f_3)), (g 5, .inl (cy 1, 8, .inl f_4)), (g 6, .inl (cy 1, 8, .inl f_5)), (g 7, .inl (cy 1, 8, .inl f_6)), (g 8, .inl (cy 1, 8, .inl f_7)), (g 10, .inl (cy 3, 8, .inl f_8)), (g 11, .inl (cy 2, 8, .inr (.inl f_9))), (g 12, .inl (cy 2, 8, .inr (.inl f_10))), (g 13, .inl (cy 1, 8, .inl f_11)), (g 15, .inl (cy 2, 8, .inr (.inl f_12))), (g 16, .inl (cy 1, 8, .inl f_13)), (g 21, .inl (cy 1, 8, .inl f_14)), (g 23, .inl (cy 1, 32, .inl (fun _ => 0))), (g 28, .inl (cy 1, 8, .inl f_15)), (g 29, .inl (cy 1, 8, .inl (fun _ => 0)))] H ∧ va_D A [(z0, .inr (13, xM g 0 0 0)), (g 1, .inl (cy 3, 8, .inl f_1)), (g 2, .inl (cy 1, 8, .inl f_2)), (g 4, .inl (cy 1, 8, .inl f_3)), (g 5, .inl (cy 1, 8, .inl f_4)), (g 6, .inl (cy 1, 8, .inl f_5)), (g 7, .inl (cy 1, 8, .inl f_6)), (g 8, .inl (cy 1, 8, .inl f_7)), (g 10, .inl (cy 3, 8, .inl f_8)), (g 11, .inl (cy 2, 8, .inr (.inl f_9))), (g 12, .inl (cy 2, 8, .inr (.inl f_10))), (g 13, .inl (cy 1, 8, .inl f_11)), (g 15, .inl (cy 2, 8, .inr (.inl f_12))), (g 16, .inl (cy 1, 8, .inl f_13)), (g 21, .inl (cy 1, 8, .inl f_14)), (g 23, .inl (cy 1, 32, .inl (fun _ => 0))), (g 28, .inl (cy 1, 8, .inl f_15)), (g 29, .inl (cy 1, 8, .inl (fun _ => 0)))] := ⟨upd (fun _ => 0) (Int32.toNatClampNeg h) 0, hP, hD⟩
  clear hP hD
  obtain ⟨f_15, hP, hD⟩ := hPD
  refine lv_aload_n hx hb dX13_forgets_111 rfl (lv_at hl 0 rfl) ?_
  refine va_get (D := D) (ci := 13) (v := .ref (g 29)) (C := RX13) (T := TX13) (N := 68) hx hb hts iG13 hown hK.1 hP 0 rfl rfl 32 (by decide) (hts _ gw1154) (fun _ h9 => h9) rfl dX13_forgets_112 ?_
  refine lv_iload_n hx hb dX13_forgets_115 rfl (lv_at hl 1 rfl) ?_
  refine lv_iconst (v := 0) hx hb dX13_forgets_116 (by decide) ?_
  refine va_iast hx hb hK.1 hP hD hS 17 1 rfl rfl (xin8 h1 h2) dX13_forgets_117 (fun H locs hP hD hS => ?_)
  have hPD : ∃ f_16 : Nat → Int32, va_P D vwCl [(z0, .inr (13, xM g 0 0 0)), (g 1, .inl (cy 3, 8, .inl f_1)), (g 2, .inl (cy 1, 8, .inl f_2)), (g 4, .inl (cy 1, 8, .inl f_3)), (g 5, .inl (cy 1, 8, .inl f_4)), (g 6, .inl (cy 1, 8, .inl f_5)), (g 7, .inl (cy 1, 8, .inl f_6)), (g 8, .inl (cy 1, 8, .inl f_7)), (g 10, .inl (cy 3, 8, .inl f_8)), (g 11, .inl (cy 2, 8, .inr (.inl f_9))), (g 12, .inl (cy 2, 8, .inr (.inl f_10))), (g 13, .inl (cy 1, 8, .inl f_11)), (g 15, .inl (cy 2, 8, .inr (.inl f_12))), (g 16, .inl (cy 1, 8, .inl f_13)), (g 21, .inl (cy 1, 8, .inl f_14)), (g 23, .inl (cy 1, 32, .inl (fun _ => 0))), (g 28, .inl (cy 1, 8, .inl f_15)), (g 29, .inl (cy 1, 8, .inl f_16))] H ∧ va_D A [(z0, .inr (13, xM g 0 0 0)), (g 1, .inl (cy 3, 8, .inl f_1)), (g 2, .inl (cy 1, 8, .inl f_2)), (g 4, .inl (cy 1, 8, .inl f_3)), (g 5, .inl (cy 1, 8, .inl f_4)), (g 6, .inl (cy 1, 8, .inl f_5)), (g 7, .inl (cy 1, 8, .inl f_6)), (g 8, .inl (cy 1, 8, .inl f_7)), (g 10, .inl (cy 3, 8, .inl f_8)), (g 11, .inl (cy 2, 8, .inr (.inl f_9))), (g 12, .inl (cy 2, 8, .inr (.inl f_10))), (g 13, .inl (cy 1, 8, .inl f_11)), (g 15, .inl (cy 2, 8, .inr (.inl f_12))), (g 16, .inl (cy 1, 8, .inl f_13)), (g 21, .inl (cy 1, 8, .inl f_14)), (g 23, .inl (cy 1, 32, .inl (fun _ => 0))), (g 28, .inl (cy 1, 8, .inl f_15)), (g 29, .inl (cy 1, 8, .inl f_16))] := ⟨upd (fun _ => 0) (Int32.toNatClampNeg h) 0, hP, hD⟩
  clear hP hD
  obtain ⟨f_16, hP, hD⟩ := hPD
  rcases xcase8 h1 h2 with rfl | rfl | rfl | rfl | rfl | rfl | rfl | rfl
  · refine lv_iconst (v := 4) hx hb dX13_forgets_118 (by decide) ?_
    refine lv_iload_n hx hb dX13_forgets_119 rfl (lv_at hl 1 rfl) ?_
    refine lv_imul hx hb dX13_forgets_120 ?_
    refine x_ci (y := 0) (by decide) ?_
    refine lv_istore_n (lv' := [(2, .int 0), (0, .ref z0), (1, .int 0)]) hx hb dX13_forgets_121 rfl hl (by decide) rfl (fun ls hl => ?_)
    refine lv_iload_n hx hb dX13_forgets_122 rfl (lv_at hl 0 rfl) ?_
    refine lv_iconst (v := 4) hx hb dX13_forgets_123 (by decide) ?_
    refine lv_iload_n hx hb dX13_forgets_124 rfl (lv_at hl 2 rfl) ?_
    refine lv_imul hx hb dX13_forgets_125 ?_
    refine x_ci (y := 0) (by decide) ?_
    refine lv_iconst (v := 4) hx hb dX13_forgets_126 (by decide) ?_
    refine lv_iadd hx hb dX13_forgets_127 ?_
    refine x_ci (y := 4) (by decide) ?_
    refine lv_icmp_ge (tgt := 144) hx hb dX13_forgets_128 (by decide) (fun c_17 => ?_) (fun c_17 => ?_)
    · exact absurd c_17 (by decide)
    · refine lv_aload_n hx hb dX13_forgets_131 rfl (lv_at hl 1 rfl) ?_
      refine va_get (D := D) (ci := 13) (v := .ref (g 23)) (C := RX13) (T := TX13) (N := 68) hx hb hts iG13 hown hK.1 hP 0 rfl rfl 26 (by decide) (hts _ gw1148) (fun _ h9 => h9) rfl dX13_forgets_132 ?_
      refine lv_iload_n hx hb dX13_forgets_135 rfl (lv_at hl 0 rfl) ?_
      refine lv_iconst (v := 0) hx hb dX13_forgets_136 (by decide) ?_
      refine va_iast hx hb hK.1 hP hD hS 15 1 rfl rfl (show vp_in 0 32 by unfold vp_in; decide) dX13_forgets_137 (fun H locs hP hD hS => ?_)
      have hPD : ∃ f_18 : Nat → Int32, va_P D vwCl [(z0, .inr (13, xM g 0 0 0)), (g 1, .inl (cy 3, 8, .inl f_1)), (g 2, .inl (cy 1, 8, .inl f_2)), (g 4, .inl (cy 1, 8, .inl f_3)), (g 5, .inl (cy 1, 8, .inl f_4)), (g 6, .inl (cy 1, 8, .inl f_5)), (g 7, .inl (cy 1, 8, .inl f_6)), (g 8, .inl (cy 1, 8, .inl f_7)), (g 10, .inl (cy 3, 8, .inl f_8)), (g 11, .inl (cy 2, 8, .inr (.inl f_9))), (g 12, .inl (cy 2, 8, .inr (.inl f_10))), (g 13, .inl (cy 1, 8, .inl f_11)), (g 15, .inl (cy 2, 8, .inr (.inl f_12))), (g 16, .inl (cy 1, 8, .inl f_13)), (g 21, .inl (cy 1, 8, .inl f_14)), (g 23, .inl (cy 1, 32, .inl f_18)), (g 28, .inl (cy 1, 8, .inl f_15)), (g 29, .inl (cy 1, 8, .inl f_16))] H ∧ va_D A [(z0, .inr (13, xM g 0 0 0)), (g 1, .inl (cy 3, 8, .inl f_1)), (g 2, .inl (cy 1, 8, .inl f_2)), (g 4, .inl (cy 1, 8, .inl f_3)), (g 5, .inl (cy 1, 8, .inl f_4)), (g 6, .inl (cy 1, 8, .inl f_5)), (g 7, .inl (cy 1, 8, .inl f_6)), (g 8, .inl (cy 1, 8, .inl f_7)), (g 10, .inl (cy 3, 8, .inl f_8)), (g 11, .inl (cy 2, 8, .inr (.inl f_9))), (g 12, .inl (cy 2, 8, .inr (.inl f_10))), (g 13, .inl (cy 1, 8, .inl f_11)), (g 15, .inl (cy 2, 8, .inr (.inl f_12))), (g 16, .inl (cy 1, 8, .inl f_13)), (g 21, .inl (cy 1, 8, .inl f_14)), (g 23, .inl (cy 1, 32, .inl f_18)), (g 28, .inl (cy 1, 8, .inl f_15)), (g 29, .inl (cy 1, 8, .inl f_16))] := ⟨upd (fun _ => 0) (Int32.toNatClampNeg 0) 0, hP, hD⟩
      clear hP hD
      obtain ⟨f_18, hP, hD⟩ := hPD
      refine lv_iinc (v := 1) (lv' := [(2, .int 1), (0, .ref z0), (1, .int 0)]) hx hb dX13_forgets_138 hl (k := 0) rfl (by decide) (by decide) rfl (fun ls hl => ?_)
      refine lv_goto (tgt := 122) hx hb dX13_forgets_141 (by decide) ?_
      refine lv_iload_n hx hb dX13_forgets_122 rfl (lv_at hl 0 rfl) ?_
      refine lv_iconst (v := 4) hx hb dX13_forgets_123 (by decide) ?_
      refine lv_iload_n hx hb dX13_forgets_124 rfl (lv_at hl 2 rfl) ?_
      refine lv_imul hx hb dX13_forgets_125 ?_
      refine x_ci (y := 0) (by decide) ?_
      refine lv_iconst (v := 4) hx hb dX13_forgets_126 (by decide) ?_
      refine lv_iadd hx hb dX13_forgets_127 ?_
      refine x_ci (y := 4) (by decide) ?_
      refine lv_icmp_ge (tgt := 144) hx hb dX13_forgets_128 (by decide) (fun c_19 => ?_) (fun c_19 => ?_)
      · exact absurd c_19 (by decide)
      · refine lv_aload_n hx hb dX13_forgets_131 rfl (lv_at hl 1 rfl) ?_
        refine va_get (D := D) (ci := 13) (v := .ref (g 23)) (C := RX13) (T := TX13) (N := 68) hx hb hts iG13 hown hK.1 hP 0 rfl rfl 26 (by decide) (hts _ gw1148) (fun _ h9 => h9) rfl dX13_forgets_132 ?_
        refine lv_iload_n hx hb dX13_forgets_135 rfl (lv_at hl 0 rfl) ?_
        refine lv_iconst (v := 0) hx hb dX13_forgets_136 (by decide) ?_
        refine va_iast hx hb hK.1 hP hD hS 15 1 rfl rfl (show vp_in 1 32 by unfold vp_in; decide) dX13_forgets_137 (fun H locs hP hD hS => ?_)
        have hPD : ∃ f_20 : Nat → Int32, va_P D vwCl [(z0, .inr (13, xM g 0 0 0)), (g 1, .inl (cy 3, 8, .inl f_1)), (g 2, .inl (cy 1, 8, .inl f_2)), (g 4, .inl (cy 1, 8, .inl f_3)), (g 5, .inl (cy 1, 8, .inl f_4)), (g 6, .inl (cy 1, 8, .inl f_5)), (g 7, .inl (cy 1, 8, .inl f_6)), (g 8, .inl (cy 1, 8, .inl f_7)), (g 10, .inl (cy 3, 8, .inl f_8)), (g 11, .inl (cy 2, 8, .inr (.inl f_9))), (g 12, .inl (cy 2, 8, .inr (.inl f_10))), (g 13, .inl (cy 1, 8, .inl f_11)), (g 15, .inl (cy 2, 8, .inr (.inl f_12))), (g 16, .inl (cy 1, 8, .inl f_13)), (g 21, .inl (cy 1, 8, .inl f_14)), (g 23, .inl (cy 1, 32, .inl f_20)), (g 28, .inl (cy 1, 8, .inl f_15)), (g 29, .inl (cy 1, 8, .inl f_16))] H ∧ va_D A [(z0, .inr (13, xM g 0 0 0)), (g 1, .inl (cy 3, 8, .inl f_1)), (g 2, .inl (cy 1, 8, .inl f_2)), (g 4, .inl (cy 1, 8, .inl f_3)), (g 5, .inl (cy 1, 8, .inl f_4)), (g 6, .inl (cy 1, 8, .inl f_5)), (g 7, .inl (cy 1, 8, .inl f_6)), (g 8, .inl (cy 1, 8, .inl f_7)), (g 10, .inl (cy 3, 8, .inl f_8)), (g 11, .inl (cy 2, 8, .inr (.inl f_9))), (g 12, .inl (cy 2, 8, .inr (.inl f_10))), (g 13, .inl (cy 1, 8, .inl f_11)), (g 15, .inl (cy 2, 8, .inr (.inl f_12))), (g 16, .inl (cy 1, 8, .inl f_13)), (g 21, .inl (cy 1, 8, .inl f_14)), (g 23, .inl (cy 1, 32, .inl f_20)), (g 28, .inl (cy 1, 8, .inl f_15)), (g 29, .inl (cy 1, 8, .inl f_16))] := ⟨upd f_18 (Int32.toNatClampNeg 1) 0, hP, hD⟩
        clear hP hD
        obtain ⟨f_20, hP, hD⟩ := hPD
        refine lv_iinc (v := 2) (lv' := [(2, .int 2), (0, .ref z0), (1, .int 0)]) hx hb dX13_forgets_138 hl (k := 0) rfl (by decide) (by decide) rfl (fun ls hl => ?_)
        refine lv_goto (tgt := 122) hx hb dX13_forgets_141 (by decide) ?_
        refine lv_iload_n hx hb dX13_forgets_122 rfl (lv_at hl 0 rfl) ?_
        refine lv_iconst (v := 4) hx hb dX13_forgets_123 (by decide) ?_
        refine lv_iload_n hx hb dX13_forgets_124 rfl (lv_at hl 2 rfl) ?_
        refine lv_imul hx hb dX13_forgets_125 ?_
        refine x_ci (y := 0) (by decide) ?_
        refine lv_iconst (v := 4) hx hb dX13_forgets_126 (by decide) ?_
        refine lv_iadd hx hb dX13_forgets_127 ?_
        refine x_ci (y := 4) (by decide) ?_
        refine lv_icmp_ge (tgt := 144) hx hb dX13_forgets_128 (by decide) (fun c_21 => ?_) (fun c_21 => ?_)
        · exact absurd c_21 (by decide)
        · refine lv_aload_n hx hb dX13_forgets_131 rfl (lv_at hl 1 rfl) ?_
          refine va_get (D := D) (ci := 13) (v := .ref (g 23)) (C := RX13) (T := TX13) (N := 68) hx hb hts iG13 hown hK.1 hP 0 rfl rfl 26 (by decide) (hts _ gw1148) (fun _ h9 => h9) rfl dX13_forgets_132 ?_
          refine lv_iload_n hx hb dX13_forgets_135 rfl (lv_at hl 0 rfl) ?_
          refine lv_iconst (v := 0) hx hb dX13_forgets_136 (by decide) ?_
          refine va_iast hx hb hK.1 hP hD hS 15 1 rfl rfl (show vp_in 2 32 by unfold vp_in; decide) dX13_forgets_137 (fun H locs hP hD hS => ?_)
          have hPD : ∃ f_22 : Nat → Int32, va_P D vwCl [(z0, .inr (13, xM g 0 0 0)), (g 1, .inl (cy 3, 8, .inl f_1)), (g 2, .inl (cy 1, 8, .inl f_2)), (g 4, .inl (cy 1, 8, .inl f_3)), (g 5, .inl (cy 1, 8, .inl f_4)), (g 6, .inl (cy 1, 8, .inl f_5)), (g 7, .inl (cy 1, 8, .inl f_6)), (g 8, .inl (cy 1, 8, .inl f_7)), (g 10, .inl (cy 3, 8, .inl f_8)), (g 11, .inl (cy 2, 8, .inr (.inl f_9))), (g 12, .inl (cy 2, 8, .inr (.inl f_10))), (g 13, .inl (cy 1, 8, .inl f_11)), (g 15, .inl (cy 2, 8, .inr (.inl f_12))), (g 16, .inl (cy 1, 8, .inl f_13)), (g 21, .inl (cy 1, 8, .inl f_14)), (g 23, .inl (cy 1, 32, .inl f_22)), (g 28, .inl (cy 1, 8, .inl f_15)), (g 29, .inl (cy 1, 8, .inl f_16))] H ∧ va_D A [(z0, .inr (13, xM g 0 0 0)), (g 1, .inl (cy 3, 8, .inl f_1)), (g 2, .inl (cy 1, 8, .inl f_2)), (g 4, .inl (cy 1, 8, .inl f_3)), (g 5, .inl (cy 1, 8, .inl f_4)), (g 6, .inl (cy 1, 8, .inl f_5)), (g 7, .inl (cy 1, 8, .inl f_6)), (g 8, .inl (cy 1, 8, .inl f_7)), (g 10, .inl (cy 3, 8, .inl f_8)), (g 11, .inl (cy 2, 8, .inr (.inl f_9))), (g 12, .inl (cy 2, 8, .inr (.inl f_10))), (g 13, .inl (cy 1, 8, .inl f_11)), (g 15, .inl (cy 2, 8, .inr (.inl f_12))), (g 16, .inl (cy 1, 8, .inl f_13)), (g 21, .inl (cy 1, 8, .inl f_14)), (g 23, .inl (cy 1, 32, .inl f_22)), (g 28, .inl (cy 1, 8, .inl f_15)), (g 29, .inl (cy 1, 8, .inl f_16))] := ⟨upd f_20 (Int32.toNatClampNeg 2) 0, hP, hD⟩
          clear hP hD
          obtain ⟨f_22, hP, hD⟩ := hPD
          refine lv_iinc (v := 3) (lv' := [(2, .int 3), (0, .ref z0), (1, .int 0)]) hx hb dX13_forgets_138 hl (k := 0) rfl (by decide) (by decide) rfl (fun ls hl => ?_)
          refine lv_goto (tgt := 122) hx hb dX13_forgets_141 (by decide) ?_
          refine lv_iload_n hx hb dX13_forgets_122 rfl (lv_at hl 0 rfl) ?_
          refine lv_iconst (v := 4) hx hb dX13_forgets_123 (by decide) ?_
          refine lv_iload_n hx hb dX13_forgets_124 rfl (lv_at hl 2 rfl) ?_
          refine lv_imul hx hb dX13_forgets_125 ?_
          refine x_ci (y := 0) (by decide) ?_
          refine lv_iconst (v := 4) hx hb dX13_forgets_126 (by decide) ?_
          refine lv_iadd hx hb dX13_forgets_127 ?_
          refine x_ci (y := 4) (by decide) ?_
          refine lv_icmp_ge (tgt := 144) hx hb dX13_forgets_128 (by decide) (fun c_23 => ?_) (fun c_23 => ?_)
          · exact absurd c_23 (by decide)
          · refine lv_aload_n hx hb dX13_forgets_131 rfl (lv_at hl 1 rfl) ?_
            refine va_get (D := D) (ci := 13) (v := .ref (g 23)) (C := RX13) (T := TX13) (N := 68) hx hb hts iG13 hown hK.1 hP 0 rfl rfl 26 (by decide) (hts _ gw1148) (fun _ h9 => h9) rfl dX13_forgets_132 ?_
            refine lv_iload_n hx hb dX13_forgets_135 rfl (lv_at hl 0 rfl) ?_
            refine lv_iconst (v := 0) hx hb dX13_forgets_136 (by decide) ?_
            refine va_iast hx hb hK.1 hP hD hS 15 1 rfl rfl (show vp_in 3 32 by unfold vp_in; decide) dX13_forgets_137 (fun H locs hP hD hS => ?_)
            have hPD : ∃ f_24 : Nat → Int32, va_P D vwCl [(z0, .inr (13, xM g 0 0 0)), (g 1, .inl (cy 3, 8, .inl f_1)), (g 2, .inl (cy 1, 8, .inl f_2)), (g 4, .inl (cy 1, 8, .inl f_3)), (g 5, .inl (cy 1, 8, .inl f_4)), (g 6, .inl (cy 1, 8, .inl f_5)), (g 7, .inl (cy 1, 8, .inl f_6)), (g 8, .inl (cy 1, 8, .inl f_7)), (g 10, .inl (cy 3, 8, .inl f_8)), (g 11, .inl (cy 2, 8, .inr (.inl f_9))), (g 12, .inl (cy 2, 8, .inr (.inl f_10))), (g 13, .inl (cy 1, 8, .inl f_11)), (g 15, .inl (cy 2, 8, .inr (.inl f_12))), (g 16, .inl (cy 1, 8, .inl f_13)), (g 21, .inl (cy 1, 8, .inl f_14)), (g 23, .inl (cy 1, 32, .inl f_24)), (g 28, .inl (cy 1, 8, .inl f_15)), (g 29, .inl (cy 1, 8, .inl f_16))] H ∧ va_D A [(z0, .inr (13, xM g 0 0 0)), (g 1, .inl (cy 3, 8, .inl f_1)), (g 2, .inl (cy 1, 8, .inl f_2)), (g 4, .inl (cy 1, 8, .inl f_3)), (g 5, .inl (cy 1, 8, .inl f_4)), (g 6, .inl (cy 1, 8, .inl f_5)), (g 7, .inl (cy 1, 8, .inl f_6)), (g 8, .inl (cy 1, 8, .inl f_7)), (g 10, .inl (cy 3, 8, .inl f_8)), (g 11, .inl (cy 2, 8, .inr (.inl f_9))), (g 12, .inl (cy 2, 8, .inr (.inl f_10))), (g 13, .inl (cy 1, 8, .inl f_11)), (g 15, .inl (cy 2, 8, .inr (.inl f_12))), (g 16, .inl (cy 1, 8, .inl f_13)), (g 21, .inl (cy 1, 8, .inl f_14)), (g 23, .inl (cy 1, 32, .inl f_24)), (g 28, .inl (cy 1, 8, .inl f_15)), (g 29, .inl (cy 1, 8, .inl f_16))] := ⟨upd f_22 (Int32.toNatClampNeg 3) 0, hP, hD⟩
            clear hP hD
            obtain ⟨f_24, hP, hD⟩ := hPD
            refine lv_iinc (v := 4) (lv' := [(2, .int 4), (0, .ref z0), (1, .int 0)]) hx hb dX13_forgets_138 hl (k := 0) rfl (by decide) (by decide) rfl (fun ls hl => ?_)
            refine lv_goto (tgt := 122) hx hb dX13_forgets_141 (by decide) ?_
            refine lv_iload_n hx hb dX13_forgets_122 rfl (lv_at hl 0 rfl) ?_
            refine lv_iconst (v := 4) hx hb dX13_forgets_123 (by decide) ?_
            refine lv_iload_n hx hb dX13_forgets_124 rfl (lv_at hl 2 rfl) ?_
            refine lv_imul hx hb dX13_forgets_125 ?_
            refine x_ci (y := 0) (by decide) ?_
            refine lv_iconst (v := 4) hx hb dX13_forgets_126 (by decide) ?_
            refine lv_iadd hx hb dX13_forgets_127 ?_
            refine x_ci (y := 4) (by decide) ?_
            refine lv_icmp_ge (tgt := 144) hx hb dX13_forgets_128 (by decide) (fun c_25 => ?_) (fun c_25 => ?_)
            · have hP9 := hP.sub (ws' := [(z0, .inr (13, xM g 0 0 0)), (g 1, .inl (cy 3, 8, .inl f_1)), (g 2, .inl (cy 1, 8, .inl f_2)), (g 4, .inl (cy 1, 8, .inl f_3)), (g 10, .inl (cy 3, 8, .inl f_8)), (g 11, .inl (cy 2, 8, .inr (.inl f_9)))]) [0, 1, 2, 3, 8, 9] rfl
              have hD9 := hD.sub (ws' := [(z0, .inr (13, xM g 0 0 0)), (g 1, .inl (cy 3, 8, .inl f_1)), (g 2, .inl (cy 1, 8, .inl f_2)), (g 4, .inl (cy 1, 8, .inl f_3)), (g 10, .inl (cy 3, 8, .inl f_8)), (g 11, .inl (cy 2, 8, .inr (.inl f_9)))]) [0, 1, 2, 3, 8, 9] (by decide) rfl
              refine W.widen (k := 0) (n := 0) (Nat.le_of_ble_eq_true rfl) (Nat.le_of_ble_eq_true rfl) ?_
              exact W.vret hx hb hr (fun t ht hW => ⟨⟨(f_1, f_2, f_3, f_8, f_9), rfl, trivial, by rw [ht]; exact hP9, hD9⟩, hS.F ht⟩) hS.2.2 dX13_forgets_144
            · exact absurd c_25 (by decide)
  · refine lv_iconst (v := 4) hx hb dX13_forgets_118 (by decide) ?_
    refine lv_iload_n hx hb dX13_forgets_119 rfl (lv_at hl 1 rfl) ?_
    refine lv_imul hx hb dX13_forgets_120 ?_
    refine x_ci (y := 4) (by decide) ?_
    refine lv_istore_n (lv' := [(2, .int 4), (0, .ref z0), (1, .int 1)]) hx hb dX13_forgets_121 rfl hl (by decide) rfl (fun ls hl => ?_)
    refine lv_iload_n hx hb dX13_forgets_122 rfl (lv_at hl 0 rfl) ?_
    refine lv_iconst (v := 4) hx hb dX13_forgets_123 (by decide) ?_
    refine lv_iload_n hx hb dX13_forgets_124 rfl (lv_at hl 2 rfl) ?_
    refine lv_imul hx hb dX13_forgets_125 ?_
    refine x_ci (y := 4) (by decide) ?_
    refine lv_iconst (v := 4) hx hb dX13_forgets_126 (by decide) ?_
    refine lv_iadd hx hb dX13_forgets_127 ?_
    refine x_ci (y := 8) (by decide) ?_
    refine lv_icmp_ge (tgt := 144) hx hb dX13_forgets_128 (by decide) (fun c_26 => ?_) (fun c_26 => ?_)
    · exact absurd c_26 (by decide)
    · refine lv_aload_n hx hb dX13_forgets_131 rfl (lv_at hl 1 rfl) ?_
      refine va_get (D := D) (ci := 13) (v := .ref (g 23)) (C := RX13) (T := TX13) (N := 68) hx hb hts iG13 hown hK.1 hP 0 rfl rfl 26 (by decide) (hts _ gw1148) (fun _ h9 => h9) rfl dX13_forgets_132 ?_
      refine lv_iload_n hx hb dX13_forgets_135 rfl (lv_at hl 0 rfl) ?_
      refine lv_iconst (v := 0) hx hb dX13_forgets_136 (by decide) ?_
      refine va_iast hx hb hK.1 hP hD hS 15 1 rfl rfl (show vp_in 4 32 by unfold vp_in; decide) dX13_forgets_137 (fun H locs hP hD hS => ?_)
      have hPD : ∃ f_27 : Nat → Int32, va_P D vwCl [(z0, .inr (13, xM g 0 0 0)), (g 1, .inl (cy 3, 8, .inl f_1)), (g 2, .inl (cy 1, 8, .inl f_2)), (g 4, .inl (cy 1, 8, .inl f_3)), (g 5, .inl (cy 1, 8, .inl f_4)), (g 6, .inl (cy 1, 8, .inl f_5)), (g 7, .inl (cy 1, 8, .inl f_6)), (g 8, .inl (cy 1, 8, .inl f_7)), (g 10, .inl (cy 3, 8, .inl f_8)), (g 11, .inl (cy 2, 8, .inr (.inl f_9))), (g 12, .inl (cy 2, 8, .inr (.inl f_10))), (g 13, .inl (cy 1, 8, .inl f_11)), (g 15, .inl (cy 2, 8, .inr (.inl f_12))), (g 16, .inl (cy 1, 8, .inl f_13)), (g 21, .inl (cy 1, 8, .inl f_14)), (g 23, .inl (cy 1, 32, .inl f_27)), (g 28, .inl (cy 1, 8, .inl f_15)), (g 29, .inl (cy 1, 8, .inl f_16))] H ∧ va_D A [(z0, .inr (13, xM g 0 0 0)), (g 1, .inl (cy 3, 8, .inl f_1)), (g 2, .inl (cy 1, 8, .inl f_2)), (g 4, .inl (cy 1, 8, .inl f_3)), (g 5, .inl (cy 1, 8, .inl f_4)), (g 6, .inl (cy 1, 8, .inl f_5)), (g 7, .inl (cy 1, 8, .inl f_6)), (g 8, .inl (cy 1, 8, .inl f_7)), (g 10, .inl (cy 3, 8, .inl f_8)), (g 11, .inl (cy 2, 8, .inr (.inl f_9))), (g 12, .inl (cy 2, 8, .inr (.inl f_10))), (g 13, .inl (cy 1, 8, .inl f_11)), (g 15, .inl (cy 2, 8, .inr (.inl f_12))), (g 16, .inl (cy 1, 8, .inl f_13)), (g 21, .inl (cy 1, 8, .inl f_14)), (g 23, .inl (cy 1, 32, .inl f_27)), (g 28, .inl (cy 1, 8, .inl f_15)), (g 29, .inl (cy 1, 8, .inl f_16))] := ⟨upd (fun _ => 0) (Int32.toNatClampNeg 4) 0, hP, hD⟩
      clear hP hD
      obtain ⟨f_27, hP, hD⟩ := hPD
      refine lv_iinc (v := 5) (lv' := [(2, .int 5), (0, .ref z0), (1, .int 1)]) hx hb dX13_forgets_138 hl (k := 0) rfl (by decide) (by decide) rfl (fun ls hl => ?_)
      refine lv_goto (tgt := 122) hx hb dX13_forgets_141 (by decide) ?_
      refine lv_iload_n hx hb dX13_forgets_122 rfl (lv_at hl 0 rfl) ?_
      refine lv_iconst (v := 4) hx hb dX13_forgets_123 (by decide) ?_
      refine lv_iload_n hx hb dX13_forgets_124 rfl (lv_at hl 2 rfl) ?_
      refine lv_imul hx hb dX13_forgets_125 ?_
      refine x_ci (y := 4) (by decide) ?_
      refine lv_iconst (v := 4) hx hb dX13_forgets_126 (by decide) ?_
      refine lv_iadd hx hb dX13_forgets_127 ?_
      refine x_ci (y := 8) (by decide) ?_
      refine lv_icmp_ge (tgt := 144) hx hb dX13_forgets_128 (by decide) (fun c_28 => ?_) (fun c_28 => ?_)
      · exact absurd c_28 (by decide)
      · refine lv_aload_n hx hb dX13_forgets_131 rfl (lv_at hl 1 rfl) ?_
        refine va_get (D := D) (ci := 13) (v := .ref (g 23)) (C := RX13) (T := TX13) (N := 68) hx hb hts iG13 hown hK.1 hP 0 rfl rfl 26 (by decide) (hts _ gw1148) (fun _ h9 => h9) rfl dX13_forgets_132 ?_
        refine lv_iload_n hx hb dX13_forgets_135 rfl (lv_at hl 0 rfl) ?_
        refine lv_iconst (v := 0) hx hb dX13_forgets_136 (by decide) ?_
        refine va_iast hx hb hK.1 hP hD hS 15 1 rfl rfl (show vp_in 5 32 by unfold vp_in; decide) dX13_forgets_137 (fun H locs hP hD hS => ?_)
        have hPD : ∃ f_29 : Nat → Int32, va_P D vwCl [(z0, .inr (13, xM g 0 0 0)), (g 1, .inl (cy 3, 8, .inl f_1)), (g 2, .inl (cy 1, 8, .inl f_2)), (g 4, .inl (cy 1, 8, .inl f_3)), (g 5, .inl (cy 1, 8, .inl f_4)), (g 6, .inl (cy 1, 8, .inl f_5)), (g 7, .inl (cy 1, 8, .inl f_6)), (g 8, .inl (cy 1, 8, .inl f_7)), (g 10, .inl (cy 3, 8, .inl f_8)), (g 11, .inl (cy 2, 8, .inr (.inl f_9))), (g 12, .inl (cy 2, 8, .inr (.inl f_10))), (g 13, .inl (cy 1, 8, .inl f_11)), (g 15, .inl (cy 2, 8, .inr (.inl f_12))), (g 16, .inl (cy 1, 8, .inl f_13)), (g 21, .inl (cy 1, 8, .inl f_14)), (g 23, .inl (cy 1, 32, .inl f_29)), (g 28, .inl (cy 1, 8, .inl f_15)), (g 29, .inl (cy 1, 8, .inl f_16))] H ∧ va_D A [(z0, .inr (13, xM g 0 0 0)), (g 1, .inl (cy 3, 8, .inl f_1)), (g 2, .inl (cy 1, 8, .inl f_2)), (g 4, .inl (cy 1, 8, .inl f_3)), (g 5, .inl (cy 1, 8, .inl f_4)), (g 6, .inl (cy 1, 8, .inl f_5)), (g 7, .inl (cy 1, 8, .inl f_6)), (g 8, .inl (cy 1, 8, .inl f_7)), (g 10, .inl (cy 3, 8, .inl f_8)), (g 11, .inl (cy 2, 8, .inr (.inl f_9))), (g 12, .inl (cy 2, 8, .inr (.inl f_10))), (g 13, .inl (cy 1, 8, .inl f_11)), (g 15, .inl (cy 2, 8, .inr (.inl f_12))), (g 16, .inl (cy 1, 8, .inl f_13)), (g 21, .inl (cy 1, 8, .inl f_14)), (g 23, .inl (cy 1, 32, .inl f_29)), (g 28, .inl (cy 1, 8, .inl f_15)), (g 29, .inl (cy 1, 8, .inl f_16))] := ⟨upd f_27 (Int32.toNatClampNeg 5) 0, hP, hD⟩
        clear hP hD
        obtain ⟨f_29, hP, hD⟩ := hPD
        refine lv_iinc (v := 6) (lv' := [(2, .int 6), (0, .ref z0), (1, .int 1)]) hx hb dX13_forgets_138 hl (k := 0) rfl (by decide) (by decide) rfl (fun ls hl => ?_)
        refine lv_goto (tgt := 122) hx hb dX13_forgets_141 (by decide) ?_
        refine lv_iload_n hx hb dX13_forgets_122 rfl (lv_at hl 0 rfl) ?_
        refine lv_iconst (v := 4) hx hb dX13_forgets_123 (by decide) ?_
        refine lv_iload_n hx hb dX13_forgets_124 rfl (lv_at hl 2 rfl) ?_
        refine lv_imul hx hb dX13_forgets_125 ?_
        refine x_ci (y := 4) (by decide) ?_
        refine lv_iconst (v := 4) hx hb dX13_forgets_126 (by decide) ?_
        refine lv_iadd hx hb dX13_forgets_127 ?_
        refine x_ci (y := 8) (by decide) ?_
        refine lv_icmp_ge (tgt := 144) hx hb dX13_forgets_128 (by decide) (fun c_30 => ?_) (fun c_30 => ?_)
        · exact absurd c_30 (by decide)
        · refine lv_aload_n hx hb dX13_forgets_131 rfl (lv_at hl 1 rfl) ?_
          refine va_get (D := D) (ci := 13) (v := .ref (g 23)) (C := RX13) (T := TX13) (N := 68) hx hb hts iG13 hown hK.1 hP 0 rfl rfl 26 (by decide) (hts _ gw1148) (fun _ h9 => h9) rfl dX13_forgets_132 ?_
          refine lv_iload_n hx hb dX13_forgets_135 rfl (lv_at hl 0 rfl) ?_
          refine lv_iconst (v := 0) hx hb dX13_forgets_136 (by decide) ?_
          refine va_iast hx hb hK.1 hP hD hS 15 1 rfl rfl (show vp_in 6 32 by unfold vp_in; decide) dX13_forgets_137 (fun H locs hP hD hS => ?_)
          have hPD : ∃ f_31 : Nat → Int32, va_P D vwCl [(z0, .inr (13, xM g 0 0 0)), (g 1, .inl (cy 3, 8, .inl f_1)), (g 2, .inl (cy 1, 8, .inl f_2)), (g 4, .inl (cy 1, 8, .inl f_3)), (g 5, .inl (cy 1, 8, .inl f_4)), (g 6, .inl (cy 1, 8, .inl f_5)), (g 7, .inl (cy 1, 8, .inl f_6)), (g 8, .inl (cy 1, 8, .inl f_7)), (g 10, .inl (cy 3, 8, .inl f_8)), (g 11, .inl (cy 2, 8, .inr (.inl f_9))), (g 12, .inl (cy 2, 8, .inr (.inl f_10))), (g 13, .inl (cy 1, 8, .inl f_11)), (g 15, .inl (cy 2, 8, .inr (.inl f_12))), (g 16, .inl (cy 1, 8, .inl f_13)), (g 21, .inl (cy 1, 8, .inl f_14)), (g 23, .inl (cy 1, 32, .inl f_31)), (g 28, .inl (cy 1, 8, .inl f_15)), (g 29, .inl (cy 1, 8, .inl f_16))] H ∧ va_D A [(z0, .inr (13, xM g 0 0 0)), (g 1, .inl (cy 3, 8, .inl f_1)), (g 2, .inl (cy 1, 8, .inl f_2)), (g 4, .inl (cy 1, 8, .inl f_3)), (g 5, .inl (cy 1, 8, .inl f_4)), (g 6, .inl (cy 1, 8, .inl f_5)), (g 7, .inl (cy 1, 8, .inl f_6)), (g 8, .inl (cy 1, 8, .inl f_7)), (g 10, .inl (cy 3, 8, .inl f_8)), (g 11, .inl (cy 2, 8, .inr (.inl f_9))), (g 12, .inl (cy 2, 8, .inr (.inl f_10))), (g 13, .inl (cy 1, 8, .inl f_11)), (g 15, .inl (cy 2, 8, .inr (.inl f_12))), (g 16, .inl (cy 1, 8, .inl f_13)), (g 21, .inl (cy 1, 8, .inl f_14)), (g 23, .inl (cy 1, 32, .inl f_31)), (g 28, .inl (cy 1, 8, .inl f_15)), (g 29, .inl (cy 1, 8, .inl f_16))] := ⟨upd f_29 (Int32.toNatClampNeg 6) 0, hP, hD⟩
          clear hP hD
          obtain ⟨f_31, hP, hD⟩ := hPD
          refine lv_iinc (v := 7) (lv' := [(2, .int 7), (0, .ref z0), (1, .int 1)]) hx hb dX13_forgets_138 hl (k := 0) rfl (by decide) (by decide) rfl (fun ls hl => ?_)
          refine lv_goto (tgt := 122) hx hb dX13_forgets_141 (by decide) ?_
          refine lv_iload_n hx hb dX13_forgets_122 rfl (lv_at hl 0 rfl) ?_
          refine lv_iconst (v := 4) hx hb dX13_forgets_123 (by decide) ?_
          refine lv_iload_n hx hb dX13_forgets_124 rfl (lv_at hl 2 rfl) ?_
          refine lv_imul hx hb dX13_forgets_125 ?_
          refine x_ci (y := 4) (by decide) ?_
          refine lv_iconst (v := 4) hx hb dX13_forgets_126 (by decide) ?_
          refine lv_iadd hx hb dX13_forgets_127 ?_
          refine x_ci (y := 8) (by decide) ?_
          refine lv_icmp_ge (tgt := 144) hx hb dX13_forgets_128 (by decide) (fun c_32 => ?_) (fun c_32 => ?_)
          · exact absurd c_32 (by decide)
          · refine lv_aload_n hx hb dX13_forgets_131 rfl (lv_at hl 1 rfl) ?_
            refine va_get (D := D) (ci := 13) (v := .ref (g 23)) (C := RX13) (T := TX13) (N := 68) hx hb hts iG13 hown hK.1 hP 0 rfl rfl 26 (by decide) (hts _ gw1148) (fun _ h9 => h9) rfl dX13_forgets_132 ?_
            refine lv_iload_n hx hb dX13_forgets_135 rfl (lv_at hl 0 rfl) ?_
            refine lv_iconst (v := 0) hx hb dX13_forgets_136 (by decide) ?_
            refine va_iast hx hb hK.1 hP hD hS 15 1 rfl rfl (show vp_in 7 32 by unfold vp_in; decide) dX13_forgets_137 (fun H locs hP hD hS => ?_)
            have hPD : ∃ f_33 : Nat → Int32, va_P D vwCl [(z0, .inr (13, xM g 0 0 0)), (g 1, .inl (cy 3, 8, .inl f_1)), (g 2, .inl (cy 1, 8, .inl f_2)), (g 4, .inl (cy 1, 8, .inl f_3)), (g 5, .inl (cy 1, 8, .inl f_4)), (g 6, .inl (cy 1, 8, .inl f_5)), (g 7, .inl (cy 1, 8, .inl f_6)), (g 8, .inl (cy 1, 8, .inl f_7)), (g 10, .inl (cy 3, 8, .inl f_8)), (g 11, .inl (cy 2, 8, .inr (.inl f_9))), (g 12, .inl (cy 2, 8, .inr (.inl f_10))), (g 13, .inl (cy 1, 8, .inl f_11)), (g 15, .inl (cy 2, 8, .inr (.inl f_12))), (g 16, .inl (cy 1, 8, .inl f_13)), (g 21, .inl (cy 1, 8, .inl f_14)), (g 23, .inl (cy 1, 32, .inl f_33)), (g 28, .inl (cy 1, 8, .inl f_15)), (g 29, .inl (cy 1, 8, .inl f_16))] H ∧ va_D A [(z0, .inr (13, xM g 0 0 0)), (g 1, .inl (cy 3, 8, .inl f_1)), (g 2, .inl (cy 1, 8, .inl f_2)), (g 4, .inl (cy 1, 8, .inl f_3)), (g 5, .inl (cy 1, 8, .inl f_4)), (g 6, .inl (cy 1, 8, .inl f_5)), (g 7, .inl (cy 1, 8, .inl f_6)), (g 8, .inl (cy 1, 8, .inl f_7)), (g 10, .inl (cy 3, 8, .inl f_8)), (g 11, .inl (cy 2, 8, .inr (.inl f_9))), (g 12, .inl (cy 2, 8, .inr (.inl f_10))), (g 13, .inl (cy 1, 8, .inl f_11)), (g 15, .inl (cy 2, 8, .inr (.inl f_12))), (g 16, .inl (cy 1, 8, .inl f_13)), (g 21, .inl (cy 1, 8, .inl f_14)), (g 23, .inl (cy 1, 32, .inl f_33)), (g 28, .inl (cy 1, 8, .inl f_15)), (g 29, .inl (cy 1, 8, .inl f_16))] := ⟨upd f_31 (Int32.toNatClampNeg 7) 0, hP, hD⟩
            clear hP hD
            obtain ⟨f_33, hP, hD⟩ := hPD
            refine lv_iinc (v := 8) (lv' := [(2, .int 8), (0, .ref z0), (1, .int 1)]) hx hb dX13_forgets_138 hl (k := 0) rfl (by decide) (by decide) rfl (fun ls hl => ?_)
            refine lv_goto (tgt := 122) hx hb dX13_forgets_141 (by decide) ?_
            refine lv_iload_n hx hb dX13_forgets_122 rfl (lv_at hl 0 rfl) ?_
            refine lv_iconst (v := 4) hx hb dX13_forgets_123 (by decide) ?_
            refine lv_iload_n hx hb dX13_forgets_124 rfl (lv_at hl 2 rfl) ?_
            refine lv_imul hx hb dX13_forgets_125 ?_
            refine x_ci (y := 4) (by decide) ?_
            refine lv_iconst (v := 4) hx hb dX13_forgets_126 (by decide) ?_
            refine lv_iadd hx hb dX13_forgets_127 ?_
            refine x_ci (y := 8) (by decide) ?_
            refine lv_icmp_ge (tgt := 144) hx hb dX13_forgets_128 (by decide) (fun c_34 => ?_) (fun c_34 => ?_)
            · have hP9 := hP.sub (ws' := [(z0, .inr (13, xM g 0 0 0)), (g 1, .inl (cy 3, 8, .inl f_1)), (g 2, .inl (cy 1, 8, .inl f_2)), (g 4, .inl (cy 1, 8, .inl f_3)), (g 10, .inl (cy 3, 8, .inl f_8)), (g 11, .inl (cy 2, 8, .inr (.inl f_9)))]) [0, 1, 2, 3, 8, 9] rfl
              have hD9 := hD.sub (ws' := [(z0, .inr (13, xM g 0 0 0)), (g 1, .inl (cy 3, 8, .inl f_1)), (g 2, .inl (cy 1, 8, .inl f_2)), (g 4, .inl (cy 1, 8, .inl f_3)), (g 10, .inl (cy 3, 8, .inl f_8)), (g 11, .inl (cy 2, 8, .inr (.inl f_9)))]) [0, 1, 2, 3, 8, 9] (by decide) rfl
              refine W.widen (k := 0) (n := 0) (Nat.le_of_ble_eq_true rfl) (Nat.le_of_ble_eq_true rfl) ?_
              exact W.vret hx hb hr (fun t ht hW => ⟨⟨(f_1, f_2, f_3, f_8, f_9), rfl, trivial, by rw [ht]; exact hP9, hD9⟩, hS.F ht⟩) hS.2.2 dX13_forgets_144
            · exact absurd c_34 (by decide)
  · refine lv_iconst (v := 4) hx hb dX13_forgets_118 (by decide) ?_
    refine lv_iload_n hx hb dX13_forgets_119 rfl (lv_at hl 1 rfl) ?_
    refine lv_imul hx hb dX13_forgets_120 ?_
    refine x_ci (y := 8) (by decide) ?_
    refine lv_istore_n (lv' := [(2, .int 8), (0, .ref z0), (1, .int 2)]) hx hb dX13_forgets_121 rfl hl (by decide) rfl (fun ls hl => ?_)
    refine lv_iload_n hx hb dX13_forgets_122 rfl (lv_at hl 0 rfl) ?_
    refine lv_iconst (v := 4) hx hb dX13_forgets_123 (by decide) ?_
    refine lv_iload_n hx hb dX13_forgets_124 rfl (lv_at hl 2 rfl) ?_
    refine lv_imul hx hb dX13_forgets_125 ?_
    refine x_ci (y := 8) (by decide) ?_
    refine lv_iconst (v := 4) hx hb dX13_forgets_126 (by decide) ?_
    refine lv_iadd hx hb dX13_forgets_127 ?_
    refine x_ci (y := 12) (by decide) ?_
    refine lv_icmp_ge (tgt := 144) hx hb dX13_forgets_128 (by decide) (fun c_35 => ?_) (fun c_35 => ?_)
    · exact absurd c_35 (by decide)
    · refine lv_aload_n hx hb dX13_forgets_131 rfl (lv_at hl 1 rfl) ?_
      refine va_get (D := D) (ci := 13) (v := .ref (g 23)) (C := RX13) (T := TX13) (N := 68) hx hb hts iG13 hown hK.1 hP 0 rfl rfl 26 (by decide) (hts _ gw1148) (fun _ h9 => h9) rfl dX13_forgets_132 ?_
      refine lv_iload_n hx hb dX13_forgets_135 rfl (lv_at hl 0 rfl) ?_
      refine lv_iconst (v := 0) hx hb dX13_forgets_136 (by decide) ?_
      refine va_iast hx hb hK.1 hP hD hS 15 1 rfl rfl (show vp_in 8 32 by unfold vp_in; decide) dX13_forgets_137 (fun H locs hP hD hS => ?_)
      have hPD : ∃ f_36 : Nat → Int32, va_P D vwCl [(z0, .inr (13, xM g 0 0 0)), (g 1, .inl (cy 3, 8, .inl f_1)), (g 2, .inl (cy 1, 8, .inl f_2)), (g 4, .inl (cy 1, 8, .inl f_3)), (g 5, .inl (cy 1, 8, .inl f_4)), (g 6, .inl (cy 1, 8, .inl f_5)), (g 7, .inl (cy 1, 8, .inl f_6)), (g 8, .inl (cy 1, 8, .inl f_7)), (g 10, .inl (cy 3, 8, .inl f_8)), (g 11, .inl (cy 2, 8, .inr (.inl f_9))), (g 12, .inl (cy 2, 8, .inr (.inl f_10))), (g 13, .inl (cy 1, 8, .inl f_11)), (g 15, .inl (cy 2, 8, .inr (.inl f_12))), (g 16, .inl (cy 1, 8, .inl f_13)), (g 21, .inl (cy 1, 8, .inl f_14)), (g 23, .inl (cy 1, 32, .inl f_36)), (g 28, .inl (cy 1, 8, .inl f_15)), (g 29, .inl (cy 1, 8, .inl f_16))] H ∧ va_D A [(z0, .inr (13, xM g 0 0 0)), (g 1, .inl (cy 3, 8, .inl f_1)), (g 2, .inl (cy 1, 8, .inl f_2)), (g 4, .inl (cy 1, 8, .inl f_3)), (g 5, .inl (cy 1, 8, .inl f_4)), (g 6, .inl (cy 1, 8, .inl f_5)), (g 7, .inl (cy 1, 8, .inl f_6)), (g 8, .inl (cy 1, 8, .inl f_7)), (g 10, .inl (cy 3, 8, .inl f_8)), (g 11, .inl (cy 2, 8, .inr (.inl f_9))), (g 12, .inl (cy 2, 8, .inr (.inl f_10))), (g 13, .inl (cy 1, 8, .inl f_11)), (g 15, .inl (cy 2, 8, .inr (.inl f_12))), (g 16, .inl (cy 1, 8, .inl f_13)), (g 21, .inl (cy 1, 8, .inl f_14)), (g 23, .inl (cy 1, 32, .inl f_36)), (g 28, .inl (cy 1, 8, .inl f_15)), (g 29, .inl (cy 1, 8, .inl f_16))] := ⟨upd (fun _ => 0) (Int32.toNatClampNeg 8) 0, hP, hD⟩
      clear hP hD
      obtain ⟨f_36, hP, hD⟩ := hPD
      refine lv_iinc (v := 9) (lv' := [(2, .int 9), (0, .ref z0), (1, .int 2)]) hx hb dX13_forgets_138 hl (k := 0) rfl (by decide) (by decide) rfl (fun ls hl => ?_)
      refine lv_goto (tgt := 122) hx hb dX13_forgets_141 (by decide) ?_
      refine lv_iload_n hx hb dX13_forgets_122 rfl (lv_at hl 0 rfl) ?_
      refine lv_iconst (v := 4) hx hb dX13_forgets_123 (by decide) ?_
      refine lv_iload_n hx hb dX13_forgets_124 rfl (lv_at hl 2 rfl) ?_
      refine lv_imul hx hb dX13_forgets_125 ?_
      refine x_ci (y := 8) (by decide) ?_
      refine lv_iconst (v := 4) hx hb dX13_forgets_126 (by decide) ?_
      refine lv_iadd hx hb dX13_forgets_127 ?_
      refine x_ci (y := 12) (by decide) ?_
      refine lv_icmp_ge (tgt := 144) hx hb dX13_forgets_128 (by decide) (fun c_37 => ?_) (fun c_37 => ?_)
      · exact absurd c_37 (by decide)
      · refine lv_aload_n hx hb dX13_forgets_131 rfl (lv_at hl 1 rfl) ?_
        refine va_get (D := D) (ci := 13) (v := .ref (g 23)) (C := RX13) (T := TX13) (N := 68) hx hb hts iG13 hown hK.1 hP 0 rfl rfl 26 (by decide) (hts _ gw1148) (fun _ h9 => h9) rfl dX13_forgets_132 ?_
        refine lv_iload_n hx hb dX13_forgets_135 rfl (lv_at hl 0 rfl) ?_
        refine lv_iconst (v := 0) hx hb dX13_forgets_136 (by decide) ?_
        refine va_iast hx hb hK.1 hP hD hS 15 1 rfl rfl (show vp_in 9 32 by unfold vp_in; decide) dX13_forgets_137 (fun H locs hP hD hS => ?_)
        have hPD : ∃ f_38 : Nat → Int32, va_P D vwCl [(z0, .inr (13, xM g 0 0 0)), (g 1, .inl (cy 3, 8, .inl f_1)), (g 2, .inl (cy 1, 8, .inl f_2)), (g 4, .inl (cy 1, 8, .inl f_3)), (g 5, .inl (cy 1, 8, .inl f_4)), (g 6, .inl (cy 1, 8, .inl f_5)), (g 7, .inl (cy 1, 8, .inl f_6)), (g 8, .inl (cy 1, 8, .inl f_7)), (g 10, .inl (cy 3, 8, .inl f_8)), (g 11, .inl (cy 2, 8, .inr (.inl f_9))), (g 12, .inl (cy 2, 8, .inr (.inl f_10))), (g 13, .inl (cy 1, 8, .inl f_11)), (g 15, .inl (cy 2, 8, .inr (.inl f_12))), (g 16, .inl (cy 1, 8, .inl f_13)), (g 21, .inl (cy 1, 8, .inl f_14)), (g 23, .inl (cy 1, 32, .inl f_38)), (g 28, .inl (cy 1, 8, .inl f_15)), (g 29, .inl (cy 1, 8, .inl f_16))] H ∧ va_D A [(z0, .inr (13, xM g 0 0 0)), (g 1, .inl (cy 3, 8, .inl f_1)), (g 2, .inl (cy 1, 8, .inl f_2)), (g 4, .inl (cy 1, 8, .inl f_3)), (g 5, .inl (cy 1, 8, .inl f_4)), (g 6, .inl (cy 1, 8, .inl f_5)), (g 7, .inl (cy 1, 8, .inl f_6)), (g 8, .inl (cy 1, 8, .inl f_7)), (g 10, .inl (cy 3, 8, .inl f_8)), (g 11, .inl (cy 2, 8, .inr (.inl f_9))), (g 12, .inl (cy 2, 8, .inr (.inl f_10))), (g 13, .inl (cy 1, 8, .inl f_11)), (g 15, .inl (cy 2, 8, .inr (.inl f_12))), (g 16, .inl (cy 1, 8, .inl f_13)), (g 21, .inl (cy 1, 8, .inl f_14)), (g 23, .inl (cy 1, 32, .inl f_38)), (g 28, .inl (cy 1, 8, .inl f_15)), (g 29, .inl (cy 1, 8, .inl f_16))] := ⟨upd f_36 (Int32.toNatClampNeg 9) 0, hP, hD⟩
        clear hP hD
        obtain ⟨f_38, hP, hD⟩ := hPD
        refine lv_iinc (v := 10) (lv' := [(2, .int 10), (0, .ref z0), (1, .int 2)]) hx hb dX13_forgets_138 hl (k := 0) rfl (by decide) (by decide) rfl (fun ls hl => ?_)
        refine lv_goto (tgt := 122) hx hb dX13_forgets_141 (by decide) ?_
        refine lv_iload_n hx hb dX13_forgets_122 rfl (lv_at hl 0 rfl) ?_
        refine lv_iconst (v := 4) hx hb dX13_forgets_123 (by decide) ?_
        refine lv_iload_n hx hb dX13_forgets_124 rfl (lv_at hl 2 rfl) ?_
        refine lv_imul hx hb dX13_forgets_125 ?_
        refine x_ci (y := 8) (by decide) ?_
        refine lv_iconst (v := 4) hx hb dX13_forgets_126 (by decide) ?_
        refine lv_iadd hx hb dX13_forgets_127 ?_
        refine x_ci (y := 12) (by decide) ?_
        refine lv_icmp_ge (tgt := 144) hx hb dX13_forgets_128 (by decide) (fun c_39 => ?_) (fun c_39 => ?_)
        · exact absurd c_39 (by decide)
        · refine lv_aload_n hx hb dX13_forgets_131 rfl (lv_at hl 1 rfl) ?_
          refine va_get (D := D) (ci := 13) (v := .ref (g 23)) (C := RX13) (T := TX13) (N := 68) hx hb hts iG13 hown hK.1 hP 0 rfl rfl 26 (by decide) (hts _ gw1148) (fun _ h9 => h9) rfl dX13_forgets_132 ?_
          refine lv_iload_n hx hb dX13_forgets_135 rfl (lv_at hl 0 rfl) ?_
          refine lv_iconst (v := 0) hx hb dX13_forgets_136 (by decide) ?_
          refine va_iast hx hb hK.1 hP hD hS 15 1 rfl rfl (show vp_in 10 32 by unfold vp_in; decide) dX13_forgets_137 (fun H locs hP hD hS => ?_)
          have hPD : ∃ f_40 : Nat → Int32, va_P D vwCl [(z0, .inr (13, xM g 0 0 0)), (g 1, .inl (cy 3, 8, .inl f_1)), (g 2, .inl (cy 1, 8, .inl f_2)), (g 4, .inl (cy 1, 8, .inl f_3)), (g 5, .inl (cy 1, 8, .inl f_4)), (g 6, .inl (cy 1, 8, .inl f_5)), (g 7, .inl (cy 1, 8, .inl f_6)), (g 8, .inl (cy 1, 8, .inl f_7)), (g 10, .inl (cy 3, 8, .inl f_8)), (g 11, .inl (cy 2, 8, .inr (.inl f_9))), (g 12, .inl (cy 2, 8, .inr (.inl f_10))), (g 13, .inl (cy 1, 8, .inl f_11)), (g 15, .inl (cy 2, 8, .inr (.inl f_12))), (g 16, .inl (cy 1, 8, .inl f_13)), (g 21, .inl (cy 1, 8, .inl f_14)), (g 23, .inl (cy 1, 32, .inl f_40)), (g 28, .inl (cy 1, 8, .inl f_15)), (g 29, .inl (cy 1, 8, .inl f_16))] H ∧ va_D A [(z0, .inr (13, xM g 0 0 0)), (g 1, .inl (cy 3, 8, .inl f_1)), (g 2, .inl (cy 1, 8, .inl f_2)), (g 4, .inl (cy 1, 8, .inl f_3)), (g 5, .inl (cy 1, 8, .inl f_4)), (g 6, .inl (cy 1, 8, .inl f_5)), (g 7, .inl (cy 1, 8, .inl f_6)), (g 8, .inl (cy 1, 8, .inl f_7)), (g 10, .inl (cy 3, 8, .inl f_8)), (g 11, .inl (cy 2, 8, .inr (.inl f_9))), (g 12, .inl (cy 2, 8, .inr (.inl f_10))), (g 13, .inl (cy 1, 8, .inl f_11)), (g 15, .inl (cy 2, 8, .inr (.inl f_12))), (g 16, .inl (cy 1, 8, .inl f_13)), (g 21, .inl (cy 1, 8, .inl f_14)), (g 23, .inl (cy 1, 32, .inl f_40)), (g 28, .inl (cy 1, 8, .inl f_15)), (g 29, .inl (cy 1, 8, .inl f_16))] := ⟨upd f_38 (Int32.toNatClampNeg 10) 0, hP, hD⟩
          clear hP hD
          obtain ⟨f_40, hP, hD⟩ := hPD
          refine lv_iinc (v := 11) (lv' := [(2, .int 11), (0, .ref z0), (1, .int 2)]) hx hb dX13_forgets_138 hl (k := 0) rfl (by decide) (by decide) rfl (fun ls hl => ?_)
          refine lv_goto (tgt := 122) hx hb dX13_forgets_141 (by decide) ?_
          refine lv_iload_n hx hb dX13_forgets_122 rfl (lv_at hl 0 rfl) ?_
          refine lv_iconst (v := 4) hx hb dX13_forgets_123 (by decide) ?_
          refine lv_iload_n hx hb dX13_forgets_124 rfl (lv_at hl 2 rfl) ?_
          refine lv_imul hx hb dX13_forgets_125 ?_
          refine x_ci (y := 8) (by decide) ?_
          refine lv_iconst (v := 4) hx hb dX13_forgets_126 (by decide) ?_
          refine lv_iadd hx hb dX13_forgets_127 ?_
          refine x_ci (y := 12) (by decide) ?_
          refine lv_icmp_ge (tgt := 144) hx hb dX13_forgets_128 (by decide) (fun c_41 => ?_) (fun c_41 => ?_)
          · exact absurd c_41 (by decide)
          · refine lv_aload_n hx hb dX13_forgets_131 rfl (lv_at hl 1 rfl) ?_
            refine va_get (D := D) (ci := 13) (v := .ref (g 23)) (C := RX13) (T := TX13) (N := 68) hx hb hts iG13 hown hK.1 hP 0 rfl rfl 26 (by decide) (hts _ gw1148) (fun _ h9 => h9) rfl dX13_forgets_132 ?_
            refine lv_iload_n hx hb dX13_forgets_135 rfl (lv_at hl 0 rfl) ?_
            refine lv_iconst (v := 0) hx hb dX13_forgets_136 (by decide) ?_
            refine va_iast hx hb hK.1 hP hD hS 15 1 rfl rfl (show vp_in 11 32 by unfold vp_in; decide) dX13_forgets_137 (fun H locs hP hD hS => ?_)
            have hPD : ∃ f_42 : Nat → Int32, va_P D vwCl [(z0, .inr (13, xM g 0 0 0)), (g 1, .inl (cy 3, 8, .inl f_1)), (g 2, .inl (cy 1, 8, .inl f_2)), (g 4, .inl (cy 1, 8, .inl f_3)), (g 5, .inl (cy 1, 8, .inl f_4)), (g 6, .inl (cy 1, 8, .inl f_5)), (g 7, .inl (cy 1, 8, .inl f_6)), (g 8, .inl (cy 1, 8, .inl f_7)), (g 10, .inl (cy 3, 8, .inl f_8)), (g 11, .inl (cy 2, 8, .inr (.inl f_9))), (g 12, .inl (cy 2, 8, .inr (.inl f_10))), (g 13, .inl (cy 1, 8, .inl f_11)), (g 15, .inl (cy 2, 8, .inr (.inl f_12))), (g 16, .inl (cy 1, 8, .inl f_13)), (g 21, .inl (cy 1, 8, .inl f_14)), (g 23, .inl (cy 1, 32, .inl f_42)), (g 28, .inl (cy 1, 8, .inl f_15)), (g 29, .inl (cy 1, 8, .inl f_16))] H ∧ va_D A [(z0, .inr (13, xM g 0 0 0)), (g 1, .inl (cy 3, 8, .inl f_1)), (g 2, .inl (cy 1, 8, .inl f_2)), (g 4, .inl (cy 1, 8, .inl f_3)), (g 5, .inl (cy 1, 8, .inl f_4)), (g 6, .inl (cy 1, 8, .inl f_5)), (g 7, .inl (cy 1, 8, .inl f_6)), (g 8, .inl (cy 1, 8, .inl f_7)), (g 10, .inl (cy 3, 8, .inl f_8)), (g 11, .inl (cy 2, 8, .inr (.inl f_9))), (g 12, .inl (cy 2, 8, .inr (.inl f_10))), (g 13, .inl (cy 1, 8, .inl f_11)), (g 15, .inl (cy 2, 8, .inr (.inl f_12))), (g 16, .inl (cy 1, 8, .inl f_13)), (g 21, .inl (cy 1, 8, .inl f_14)), (g 23, .inl (cy 1, 32, .inl f_42)), (g 28, .inl (cy 1, 8, .inl f_15)), (g 29, .inl (cy 1, 8, .inl f_16))] := ⟨upd f_40 (Int32.toNatClampNeg 11) 0, hP, hD⟩
            clear hP hD
            obtain ⟨f_42, hP, hD⟩ := hPD
            refine lv_iinc (v := 12) (lv' := [(2, .int 12), (0, .ref z0), (1, .int 2)]) hx hb dX13_forgets_138 hl (k := 0) rfl (by decide) (by decide) rfl (fun ls hl => ?_)
            refine lv_goto (tgt := 122) hx hb dX13_forgets_141 (by decide) ?_
            refine lv_iload_n hx hb dX13_forgets_122 rfl (lv_at hl 0 rfl) ?_
            refine lv_iconst (v := 4) hx hb dX13_forgets_123 (by decide) ?_
            refine lv_iload_n hx hb dX13_forgets_124 rfl (lv_at hl 2 rfl) ?_
            refine lv_imul hx hb dX13_forgets_125 ?_
            refine x_ci (y := 8) (by decide) ?_
            refine lv_iconst (v := 4) hx hb dX13_forgets_126 (by decide) ?_
            refine lv_iadd hx hb dX13_forgets_127 ?_
            refine x_ci (y := 12) (by decide) ?_
            refine lv_icmp_ge (tgt := 144) hx hb dX13_forgets_128 (by decide) (fun c_43 => ?_) (fun c_43 => ?_)
            · have hP9 := hP.sub (ws' := [(z0, .inr (13, xM g 0 0 0)), (g 1, .inl (cy 3, 8, .inl f_1)), (g 2, .inl (cy 1, 8, .inl f_2)), (g 4, .inl (cy 1, 8, .inl f_3)), (g 10, .inl (cy 3, 8, .inl f_8)), (g 11, .inl (cy 2, 8, .inr (.inl f_9)))]) [0, 1, 2, 3, 8, 9] rfl
              have hD9 := hD.sub (ws' := [(z0, .inr (13, xM g 0 0 0)), (g 1, .inl (cy 3, 8, .inl f_1)), (g 2, .inl (cy 1, 8, .inl f_2)), (g 4, .inl (cy 1, 8, .inl f_3)), (g 10, .inl (cy 3, 8, .inl f_8)), (g 11, .inl (cy 2, 8, .inr (.inl f_9)))]) [0, 1, 2, 3, 8, 9] (by decide) rfl
              refine W.widen (k := 0) (n := 0) (Nat.le_of_ble_eq_true rfl) (Nat.le_of_ble_eq_true rfl) ?_
              exact W.vret hx hb hr (fun t ht hW => ⟨⟨(f_1, f_2, f_3, f_8, f_9), rfl, trivial, by rw [ht]; exact hP9, hD9⟩, hS.F ht⟩) hS.2.2 dX13_forgets_144
            · exact absurd c_43 (by decide)
  · refine lv_iconst (v := 4) hx hb dX13_forgets_118 (by decide) ?_
    refine lv_iload_n hx hb dX13_forgets_119 rfl (lv_at hl 1 rfl) ?_
    refine lv_imul hx hb dX13_forgets_120 ?_
    refine x_ci (y := 12) (by decide) ?_
    refine lv_istore_n (lv' := [(2, .int 12), (0, .ref z0), (1, .int 3)]) hx hb dX13_forgets_121 rfl hl (by decide) rfl (fun ls hl => ?_)
    refine lv_iload_n hx hb dX13_forgets_122 rfl (lv_at hl 0 rfl) ?_
    refine lv_iconst (v := 4) hx hb dX13_forgets_123 (by decide) ?_
    refine lv_iload_n hx hb dX13_forgets_124 rfl (lv_at hl 2 rfl) ?_
    refine lv_imul hx hb dX13_forgets_125 ?_
    refine x_ci (y := 12) (by decide) ?_
    refine lv_iconst (v := 4) hx hb dX13_forgets_126 (by decide) ?_
    refine lv_iadd hx hb dX13_forgets_127 ?_
    refine x_ci (y := 16) (by decide) ?_
    refine lv_icmp_ge (tgt := 144) hx hb dX13_forgets_128 (by decide) (fun c_44 => ?_) (fun c_44 => ?_)
    · exact absurd c_44 (by decide)
    · refine lv_aload_n hx hb dX13_forgets_131 rfl (lv_at hl 1 rfl) ?_
      refine va_get (D := D) (ci := 13) (v := .ref (g 23)) (C := RX13) (T := TX13) (N := 68) hx hb hts iG13 hown hK.1 hP 0 rfl rfl 26 (by decide) (hts _ gw1148) (fun _ h9 => h9) rfl dX13_forgets_132 ?_
      refine lv_iload_n hx hb dX13_forgets_135 rfl (lv_at hl 0 rfl) ?_
      refine lv_iconst (v := 0) hx hb dX13_forgets_136 (by decide) ?_
      refine va_iast hx hb hK.1 hP hD hS 15 1 rfl rfl (show vp_in 12 32 by unfold vp_in; decide) dX13_forgets_137 (fun H locs hP hD hS => ?_)
      have hPD : ∃ f_45 : Nat → Int32, va_P D vwCl [(z0, .inr (13, xM g 0 0 0)), (g 1, .inl (cy 3, 8, .inl f_1)), (g 2, .inl (cy 1, 8, .inl f_2)), (g 4, .inl (cy 1, 8, .inl f_3)), (g 5, .inl (cy 1, 8, .inl f_4)), (g 6, .inl (cy 1, 8, .inl f_5)), (g 7, .inl (cy 1, 8, .inl f_6)), (g 8, .inl (cy 1, 8, .inl f_7)), (g 10, .inl (cy 3, 8, .inl f_8)), (g 11, .inl (cy 2, 8, .inr (.inl f_9))), (g 12, .inl (cy 2, 8, .inr (.inl f_10))), (g 13, .inl (cy 1, 8, .inl f_11)), (g 15, .inl (cy 2, 8, .inr (.inl f_12))), (g 16, .inl (cy 1, 8, .inl f_13)), (g 21, .inl (cy 1, 8, .inl f_14)), (g 23, .inl (cy 1, 32, .inl f_45)), (g 28, .inl (cy 1, 8, .inl f_15)), (g 29, .inl (cy 1, 8, .inl f_16))] H ∧ va_D A [(z0, .inr (13, xM g 0 0 0)), (g 1, .inl (cy 3, 8, .inl f_1)), (g 2, .inl (cy 1, 8, .inl f_2)), (g 4, .inl (cy 1, 8, .inl f_3)), (g 5, .inl (cy 1, 8, .inl f_4)), (g 6, .inl (cy 1, 8, .inl f_5)), (g 7, .inl (cy 1, 8, .inl f_6)), (g 8, .inl (cy 1, 8, .inl f_7)), (g 10, .inl (cy 3, 8, .inl f_8)), (g 11, .inl (cy 2, 8, .inr (.inl f_9))), (g 12, .inl (cy 2, 8, .inr (.inl f_10))), (g 13, .inl (cy 1, 8, .inl f_11)), (g 15, .inl (cy 2, 8, .inr (.inl f_12))), (g 16, .inl (cy 1, 8, .inl f_13)), (g 21, .inl (cy 1, 8, .inl f_14)), (g 23, .inl (cy 1, 32, .inl f_45)), (g 28, .inl (cy 1, 8, .inl f_15)), (g 29, .inl (cy 1, 8, .inl f_16))] := ⟨upd (fun _ => 0) (Int32.toNatClampNeg 12) 0, hP, hD⟩
      clear hP hD
      obtain ⟨f_45, hP, hD⟩ := hPD
      refine lv_iinc (v := 13) (lv' := [(2, .int 13), (0, .ref z0), (1, .int 3)]) hx hb dX13_forgets_138 hl (k := 0) rfl (by decide) (by decide) rfl (fun ls hl => ?_)
      refine lv_goto (tgt := 122) hx hb dX13_forgets_141 (by decide) ?_
      refine lv_iload_n hx hb dX13_forgets_122 rfl (lv_at hl 0 rfl) ?_
      refine lv_iconst (v := 4) hx hb dX13_forgets_123 (by decide) ?_
      refine lv_iload_n hx hb dX13_forgets_124 rfl (lv_at hl 2 rfl) ?_
      refine lv_imul hx hb dX13_forgets_125 ?_
      refine x_ci (y := 12) (by decide) ?_
      refine lv_iconst (v := 4) hx hb dX13_forgets_126 (by decide) ?_
      refine lv_iadd hx hb dX13_forgets_127 ?_
      refine x_ci (y := 16) (by decide) ?_
      refine lv_icmp_ge (tgt := 144) hx hb dX13_forgets_128 (by decide) (fun c_46 => ?_) (fun c_46 => ?_)
      · exact absurd c_46 (by decide)
      · refine lv_aload_n hx hb dX13_forgets_131 rfl (lv_at hl 1 rfl) ?_
        refine va_get (D := D) (ci := 13) (v := .ref (g 23)) (C := RX13) (T := TX13) (N := 68) hx hb hts iG13 hown hK.1 hP 0 rfl rfl 26 (by decide) (hts _ gw1148) (fun _ h9 => h9) rfl dX13_forgets_132 ?_
        refine lv_iload_n hx hb dX13_forgets_135 rfl (lv_at hl 0 rfl) ?_
        refine lv_iconst (v := 0) hx hb dX13_forgets_136 (by decide) ?_
        refine va_iast hx hb hK.1 hP hD hS 15 1 rfl rfl (show vp_in 13 32 by unfold vp_in; decide) dX13_forgets_137 (fun H locs hP hD hS => ?_)
        have hPD : ∃ f_47 : Nat → Int32, va_P D vwCl [(z0, .inr (13, xM g 0 0 0)), (g 1, .inl (cy 3, 8, .inl f_1)), (g 2, .inl (cy 1, 8, .inl f_2)), (g 4, .inl (cy 1, 8, .inl f_3)), (g 5, .inl (cy 1, 8, .inl f_4)), (g 6, .inl (cy 1, 8, .inl f_5)), (g 7, .inl (cy 1, 8, .inl f_6)), (g 8, .inl (cy 1, 8, .inl f_7)), (g 10, .inl (cy 3, 8, .inl f_8)), (g 11, .inl (cy 2, 8, .inr (.inl f_9))), (g 12, .inl (cy 2, 8, .inr (.inl f_10))), (g 13, .inl (cy 1, 8, .inl f_11)), (g 15, .inl (cy 2, 8, .inr (.inl f_12))), (g 16, .inl (cy 1, 8, .inl f_13)), (g 21, .inl (cy 1, 8, .inl f_14)), (g 23, .inl (cy 1, 32, .inl f_47)), (g 28, .inl (cy 1, 8, .inl f_15)), (g 29, .inl (cy 1, 8, .inl f_16))] H ∧ va_D A [(z0, .inr (13, xM g 0 0 0)), (g 1, .inl (cy 3, 8, .inl f_1)), (g 2, .inl (cy 1, 8, .inl f_2)), (g 4, .inl (cy 1, 8, .inl f_3)), (g 5, .inl (cy 1, 8, .inl f_4)), (g 6, .inl (cy 1, 8, .inl f_5)), (g 7, .inl (cy 1, 8, .inl f_6)), (g 8, .inl (cy 1, 8, .inl f_7)), (g 10, .inl (cy 3, 8, .inl f_8)), (g 11, .inl (cy 2, 8, .inr (.inl f_9))), (g 12, .inl (cy 2, 8, .inr (.inl f_10))), (g 13, .inl (cy 1, 8, .inl f_11)), (g 15, .inl (cy 2, 8, .inr (.inl f_12))), (g 16, .inl (cy 1, 8, .inl f_13)), (g 21, .inl (cy 1, 8, .inl f_14)), (g 23, .inl (cy 1, 32, .inl f_47)), (g 28, .inl (cy 1, 8, .inl f_15)), (g 29, .inl (cy 1, 8, .inl f_16))] := ⟨upd f_45 (Int32.toNatClampNeg 13) 0, hP, hD⟩
        clear hP hD
        obtain ⟨f_47, hP, hD⟩ := hPD
        refine lv_iinc (v := 14) (lv' := [(2, .int 14), (0, .ref z0), (1, .int 3)]) hx hb dX13_forgets_138 hl (k := 0) rfl (by decide) (by decide) rfl (fun ls hl => ?_)
        refine lv_goto (tgt := 122) hx hb dX13_forgets_141 (by decide) ?_
        refine lv_iload_n hx hb dX13_forgets_122 rfl (lv_at hl 0 rfl) ?_
        refine lv_iconst (v := 4) hx hb dX13_forgets_123 (by decide) ?_
        refine lv_iload_n hx hb dX13_forgets_124 rfl (lv_at hl 2 rfl) ?_
        refine lv_imul hx hb dX13_forgets_125 ?_
        refine x_ci (y := 12) (by decide) ?_
        refine lv_iconst (v := 4) hx hb dX13_forgets_126 (by decide) ?_
        refine lv_iadd hx hb dX13_forgets_127 ?_
        refine x_ci (y := 16) (by decide) ?_
        refine lv_icmp_ge (tgt := 144) hx hb dX13_forgets_128 (by decide) (fun c_48 => ?_) (fun c_48 => ?_)
        · exact absurd c_48 (by decide)
        · refine lv_aload_n hx hb dX13_forgets_131 rfl (lv_at hl 1 rfl) ?_
          refine va_get (D := D) (ci := 13) (v := .ref (g 23)) (C := RX13) (T := TX13) (N := 68) hx hb hts iG13 hown hK.1 hP 0 rfl rfl 26 (by decide) (hts _ gw1148) (fun _ h9 => h9) rfl dX13_forgets_132 ?_
          refine lv_iload_n hx hb dX13_forgets_135 rfl (lv_at hl 0 rfl) ?_
          refine lv_iconst (v := 0) hx hb dX13_forgets_136 (by decide) ?_
          refine va_iast hx hb hK.1 hP hD hS 15 1 rfl rfl (show vp_in 14 32 by unfold vp_in; decide) dX13_forgets_137 (fun H locs hP hD hS => ?_)
          have hPD : ∃ f_49 : Nat → Int32, va_P D vwCl [(z0, .inr (13, xM g 0 0 0)), (g 1, .inl (cy 3, 8, .inl f_1)), (g 2, .inl (cy 1, 8, .inl f_2)), (g 4, .inl (cy 1, 8, .inl f_3)), (g 5, .inl (cy 1, 8, .inl f_4)), (g 6, .inl (cy 1, 8, .inl f_5)), (g 7, .inl (cy 1, 8, .inl f_6)), (g 8, .inl (cy 1, 8, .inl f_7)), (g 10, .inl (cy 3, 8, .inl f_8)), (g 11, .inl (cy 2, 8, .inr (.inl f_9))), (g 12, .inl (cy 2, 8, .inr (.inl f_10))), (g 13, .inl (cy 1, 8, .inl f_11)), (g 15, .inl (cy 2, 8, .inr (.inl f_12))), (g 16, .inl (cy 1, 8, .inl f_13)), (g 21, .inl (cy 1, 8, .inl f_14)), (g 23, .inl (cy 1, 32, .inl f_49)), (g 28, .inl (cy 1, 8, .inl f_15)), (g 29, .inl (cy 1, 8, .inl f_16))] H ∧ va_D A [(z0, .inr (13, xM g 0 0 0)), (g 1, .inl (cy 3, 8, .inl f_1)), (g 2, .inl (cy 1, 8, .inl f_2)), (g 4, .inl (cy 1, 8, .inl f_3)), (g 5, .inl (cy 1, 8, .inl f_4)), (g 6, .inl (cy 1, 8, .inl f_5)), (g 7, .inl (cy 1, 8, .inl f_6)), (g 8, .inl (cy 1, 8, .inl f_7)), (g 10, .inl (cy 3, 8, .inl f_8)), (g 11, .inl (cy 2, 8, .inr (.inl f_9))), (g 12, .inl (cy 2, 8, .inr (.inl f_10))), (g 13, .inl (cy 1, 8, .inl f_11)), (g 15, .inl (cy 2, 8, .inr (.inl f_12))), (g 16, .inl (cy 1, 8, .inl f_13)), (g 21, .inl (cy 1, 8, .inl f_14)), (g 23, .inl (cy 1, 32, .inl f_49)), (g 28, .inl (cy 1, 8, .inl f_15)), (g 29, .inl (cy 1, 8, .inl f_16))] := ⟨upd f_47 (Int32.toNatClampNeg 14) 0, hP, hD⟩
          clear hP hD
          obtain ⟨f_49, hP, hD⟩ := hPD
          refine lv_iinc (v := 15) (lv' := [(2, .int 15), (0, .ref z0), (1, .int 3)]) hx hb dX13_forgets_138 hl (k := 0) rfl (by decide) (by decide) rfl (fun ls hl => ?_)
          refine lv_goto (tgt := 122) hx hb dX13_forgets_141 (by decide) ?_
          refine lv_iload_n hx hb dX13_forgets_122 rfl (lv_at hl 0 rfl) ?_
          refine lv_iconst (v := 4) hx hb dX13_forgets_123 (by decide) ?_
          refine lv_iload_n hx hb dX13_forgets_124 rfl (lv_at hl 2 rfl) ?_
          refine lv_imul hx hb dX13_forgets_125 ?_
          refine x_ci (y := 12) (by decide) ?_
          refine lv_iconst (v := 4) hx hb dX13_forgets_126 (by decide) ?_
          refine lv_iadd hx hb dX13_forgets_127 ?_
          refine x_ci (y := 16) (by decide) ?_
          refine lv_icmp_ge (tgt := 144) hx hb dX13_forgets_128 (by decide) (fun c_50 => ?_) (fun c_50 => ?_)
          · exact absurd c_50 (by decide)
          · refine lv_aload_n hx hb dX13_forgets_131 rfl (lv_at hl 1 rfl) ?_
            refine va_get (D := D) (ci := 13) (v := .ref (g 23)) (C := RX13) (T := TX13) (N := 68) hx hb hts iG13 hown hK.1 hP 0 rfl rfl 26 (by decide) (hts _ gw1148) (fun _ h9 => h9) rfl dX13_forgets_132 ?_
            refine lv_iload_n hx hb dX13_forgets_135 rfl (lv_at hl 0 rfl) ?_
            refine lv_iconst (v := 0) hx hb dX13_forgets_136 (by decide) ?_
            refine va_iast hx hb hK.1 hP hD hS 15 1 rfl rfl (show vp_in 15 32 by unfold vp_in; decide) dX13_forgets_137 (fun H locs hP hD hS => ?_)
            have hPD : ∃ f_51 : Nat → Int32, va_P D vwCl [(z0, .inr (13, xM g 0 0 0)), (g 1, .inl (cy 3, 8, .inl f_1)), (g 2, .inl (cy 1, 8, .inl f_2)), (g 4, .inl (cy 1, 8, .inl f_3)), (g 5, .inl (cy 1, 8, .inl f_4)), (g 6, .inl (cy 1, 8, .inl f_5)), (g 7, .inl (cy 1, 8, .inl f_6)), (g 8, .inl (cy 1, 8, .inl f_7)), (g 10, .inl (cy 3, 8, .inl f_8)), (g 11, .inl (cy 2, 8, .inr (.inl f_9))), (g 12, .inl (cy 2, 8, .inr (.inl f_10))), (g 13, .inl (cy 1, 8, .inl f_11)), (g 15, .inl (cy 2, 8, .inr (.inl f_12))), (g 16, .inl (cy 1, 8, .inl f_13)), (g 21, .inl (cy 1, 8, .inl f_14)), (g 23, .inl (cy 1, 32, .inl f_51)), (g 28, .inl (cy 1, 8, .inl f_15)), (g 29, .inl (cy 1, 8, .inl f_16))] H ∧ va_D A [(z0, .inr (13, xM g 0 0 0)), (g 1, .inl (cy 3, 8, .inl f_1)), (g 2, .inl (cy 1, 8, .inl f_2)), (g 4, .inl (cy 1, 8, .inl f_3)), (g 5, .inl (cy 1, 8, .inl f_4)), (g 6, .inl (cy 1, 8, .inl f_5)), (g 7, .inl (cy 1, 8, .inl f_6)), (g 8, .inl (cy 1, 8, .inl f_7)), (g 10, .inl (cy 3, 8, .inl f_8)), (g 11, .inl (cy 2, 8, .inr (.inl f_9))), (g 12, .inl (cy 2, 8, .inr (.inl f_10))), (g 13, .inl (cy 1, 8, .inl f_11)), (g 15, .inl (cy 2, 8, .inr (.inl f_12))), (g 16, .inl (cy 1, 8, .inl f_13)), (g 21, .inl (cy 1, 8, .inl f_14)), (g 23, .inl (cy 1, 32, .inl f_51)), (g 28, .inl (cy 1, 8, .inl f_15)), (g 29, .inl (cy 1, 8, .inl f_16))] := ⟨upd f_49 (Int32.toNatClampNeg 15) 0, hP, hD⟩
            clear hP hD
            obtain ⟨f_51, hP, hD⟩ := hPD
            refine lv_iinc (v := 16) (lv' := [(2, .int 16), (0, .ref z0), (1, .int 3)]) hx hb dX13_forgets_138 hl (k := 0) rfl (by decide) (by decide) rfl (fun ls hl => ?_)
            refine lv_goto (tgt := 122) hx hb dX13_forgets_141 (by decide) ?_
            refine lv_iload_n hx hb dX13_forgets_122 rfl (lv_at hl 0 rfl) ?_
            refine lv_iconst (v := 4) hx hb dX13_forgets_123 (by decide) ?_
            refine lv_iload_n hx hb dX13_forgets_124 rfl (lv_at hl 2 rfl) ?_
            refine lv_imul hx hb dX13_forgets_125 ?_
            refine x_ci (y := 12) (by decide) ?_
            refine lv_iconst (v := 4) hx hb dX13_forgets_126 (by decide) ?_
            refine lv_iadd hx hb dX13_forgets_127 ?_
            refine x_ci (y := 16) (by decide) ?_
            refine lv_icmp_ge (tgt := 144) hx hb dX13_forgets_128 (by decide) (fun c_52 => ?_) (fun c_52 => ?_)
            · have hP9 := hP.sub (ws' := [(z0, .inr (13, xM g 0 0 0)), (g 1, .inl (cy 3, 8, .inl f_1)), (g 2, .inl (cy 1, 8, .inl f_2)), (g 4, .inl (cy 1, 8, .inl f_3)), (g 10, .inl (cy 3, 8, .inl f_8)), (g 11, .inl (cy 2, 8, .inr (.inl f_9)))]) [0, 1, 2, 3, 8, 9] rfl
              have hD9 := hD.sub (ws' := [(z0, .inr (13, xM g 0 0 0)), (g 1, .inl (cy 3, 8, .inl f_1)), (g 2, .inl (cy 1, 8, .inl f_2)), (g 4, .inl (cy 1, 8, .inl f_3)), (g 10, .inl (cy 3, 8, .inl f_8)), (g 11, .inl (cy 2, 8, .inr (.inl f_9)))]) [0, 1, 2, 3, 8, 9] (by decide) rfl
              refine W.widen (k := 0) (n := 0) (Nat.le_of_ble_eq_true rfl) (Nat.le_of_ble_eq_true rfl) ?_
              exact W.vret hx hb hr (fun t ht hW => ⟨⟨(f_1, f_2, f_3, f_8, f_9), rfl, trivial, by rw [ht]; exact hP9, hD9⟩, hS.F ht⟩) hS.2.2 dX13_forgets_144
            · exact absurd c_52 (by decide)
  · refine lv_iconst (v := 4) hx hb dX13_forgets_118 (by decide) ?_
    refine lv_iload_n hx hb dX13_forgets_119 rfl (lv_at hl 1 rfl) ?_
    refine lv_imul hx hb dX13_forgets_120 ?_
    refine x_ci (y := 16) (by decide) ?_
    refine lv_istore_n (lv' := [(2, .int 16), (0, .ref z0), (1, .int 4)]) hx hb dX13_forgets_121 rfl hl (by decide) rfl (fun ls hl => ?_)
    refine lv_iload_n hx hb dX13_forgets_122 rfl (lv_at hl 0 rfl) ?_
    refine lv_iconst (v := 4) hx hb dX13_forgets_123 (by decide) ?_
    refine lv_iload_n hx hb dX13_forgets_124 rfl (lv_at hl 2 rfl) ?_
    refine lv_imul hx hb dX13_forgets_125 ?_
    refine x_ci (y := 16) (by decide) ?_
    refine lv_iconst (v := 4) hx hb dX13_forgets_126 (by decide) ?_
    refine lv_iadd hx hb dX13_forgets_127 ?_
    refine x_ci (y := 20) (by decide) ?_
    refine lv_icmp_ge (tgt := 144) hx hb dX13_forgets_128 (by decide) (fun c_53 => ?_) (fun c_53 => ?_)
    · exact absurd c_53 (by decide)
    · refine lv_aload_n hx hb dX13_forgets_131 rfl (lv_at hl 1 rfl) ?_
      refine va_get (D := D) (ci := 13) (v := .ref (g 23)) (C := RX13) (T := TX13) (N := 68) hx hb hts iG13 hown hK.1 hP 0 rfl rfl 26 (by decide) (hts _ gw1148) (fun _ h9 => h9) rfl dX13_forgets_132 ?_
      refine lv_iload_n hx hb dX13_forgets_135 rfl (lv_at hl 0 rfl) ?_
      refine lv_iconst (v := 0) hx hb dX13_forgets_136 (by decide) ?_
      refine va_iast hx hb hK.1 hP hD hS 15 1 rfl rfl (show vp_in 16 32 by unfold vp_in; decide) dX13_forgets_137 (fun H locs hP hD hS => ?_)
      have hPD : ∃ f_54 : Nat → Int32, va_P D vwCl [(z0, .inr (13, xM g 0 0 0)), (g 1, .inl (cy 3, 8, .inl f_1)), (g 2, .inl (cy 1, 8, .inl f_2)), (g 4, .inl (cy 1, 8, .inl f_3)), (g 5, .inl (cy 1, 8, .inl f_4)), (g 6, .inl (cy 1, 8, .inl f_5)), (g 7, .inl (cy 1, 8, .inl f_6)), (g 8, .inl (cy 1, 8, .inl f_7)), (g 10, .inl (cy 3, 8, .inl f_8)), (g 11, .inl (cy 2, 8, .inr (.inl f_9))), (g 12, .inl (cy 2, 8, .inr (.inl f_10))), (g 13, .inl (cy 1, 8, .inl f_11)), (g 15, .inl (cy 2, 8, .inr (.inl f_12))), (g 16, .inl (cy 1, 8, .inl f_13)), (g 21, .inl (cy 1, 8, .inl f_14)), (g 23, .inl (cy 1, 32, .inl f_54)), (g 28, .inl (cy 1, 8, .inl f_15)), (g 29, .inl (cy 1, 8, .inl f_16))] H ∧ va_D A [(z0, .inr (13, xM g 0 0 0)), (g 1, .inl (cy 3, 8, .inl f_1)), (g 2, .inl (cy 1, 8, .inl f_2)), (g 4, .inl (cy 1, 8, .inl f_3)), (g 5, .inl (cy 1, 8, .inl f_4)), (g 6, .inl (cy 1, 8, .inl f_5)), (g 7, .inl (cy 1, 8, .inl f_6)), (g 8, .inl (cy 1, 8, .inl f_7)), (g 10, .inl (cy 3, 8, .inl f_8)), (g 11, .inl (cy 2, 8, .inr (.inl f_9))), (g 12, .inl (cy 2, 8, .inr (.inl f_10))), (g 13, .inl (cy 1, 8, .inl f_11)), (g 15, .inl (cy 2, 8, .inr (.inl f_12))), (g 16, .inl (cy 1, 8, .inl f_13)), (g 21, .inl (cy 1, 8, .inl f_14)), (g 23, .inl (cy 1, 32, .inl f_54)), (g 28, .inl (cy 1, 8, .inl f_15)), (g 29, .inl (cy 1, 8, .inl f_16))] := ⟨upd (fun _ => 0) (Int32.toNatClampNeg 16) 0, hP, hD⟩
      clear hP hD
      obtain ⟨f_54, hP, hD⟩ := hPD
      refine lv_iinc (v := 17) (lv' := [(2, .int 17), (0, .ref z0), (1, .int 4)]) hx hb dX13_forgets_138 hl (k := 0) rfl (by decide) (by decide) rfl (fun ls hl => ?_)
      refine lv_goto (tgt := 122) hx hb dX13_forgets_141 (by decide) ?_
      refine lv_iload_n hx hb dX13_forgets_122 rfl (lv_at hl 0 rfl) ?_
      refine lv_iconst (v := 4) hx hb dX13_forgets_123 (by decide) ?_
      refine lv_iload_n hx hb dX13_forgets_124 rfl (lv_at hl 2 rfl) ?_
      refine lv_imul hx hb dX13_forgets_125 ?_
      refine x_ci (y := 16) (by decide) ?_
      refine lv_iconst (v := 4) hx hb dX13_forgets_126 (by decide) ?_
      refine lv_iadd hx hb dX13_forgets_127 ?_
      refine x_ci (y := 20) (by decide) ?_
      refine lv_icmp_ge (tgt := 144) hx hb dX13_forgets_128 (by decide) (fun c_55 => ?_) (fun c_55 => ?_)
      · exact absurd c_55 (by decide)
      · refine lv_aload_n hx hb dX13_forgets_131 rfl (lv_at hl 1 rfl) ?_
        refine va_get (D := D) (ci := 13) (v := .ref (g 23)) (C := RX13) (T := TX13) (N := 68) hx hb hts iG13 hown hK.1 hP 0 rfl rfl 26 (by decide) (hts _ gw1148) (fun _ h9 => h9) rfl dX13_forgets_132 ?_
        refine lv_iload_n hx hb dX13_forgets_135 rfl (lv_at hl 0 rfl) ?_
        refine lv_iconst (v := 0) hx hb dX13_forgets_136 (by decide) ?_
        refine va_iast hx hb hK.1 hP hD hS 15 1 rfl rfl (show vp_in 17 32 by unfold vp_in; decide) dX13_forgets_137 (fun H locs hP hD hS => ?_)
        have hPD : ∃ f_56 : Nat → Int32, va_P D vwCl [(z0, .inr (13, xM g 0 0 0)), (g 1, .inl (cy 3, 8, .inl f_1)), (g 2, .inl (cy 1, 8, .inl f_2)), (g 4, .inl (cy 1, 8, .inl f_3)), (g 5, .inl (cy 1, 8, .inl f_4)), (g 6, .inl (cy 1, 8, .inl f_5)), (g 7, .inl (cy 1, 8, .inl f_6)), (g 8, .inl (cy 1, 8, .inl f_7)), (g 10, .inl (cy 3, 8, .inl f_8)), (g 11, .inl (cy 2, 8, .inr (.inl f_9))), (g 12, .inl (cy 2, 8, .inr (.inl f_10))), (g 13, .inl (cy 1, 8, .inl f_11)), (g 15, .inl (cy 2, 8, .inr (.inl f_12))), (g 16, .inl (cy 1, 8, .inl f_13)), (g 21, .inl (cy 1, 8, .inl f_14)), (g 23, .inl (cy 1, 32, .inl f_56)), (g 28, .inl (cy 1, 8, .inl f_15)), (g 29, .inl (cy 1, 8, .inl f_16))] H ∧ va_D A [(z0, .inr (13, xM g 0 0 0)), (g 1, .inl (cy 3, 8, .inl f_1)), (g 2, .inl (cy 1, 8, .inl f_2)), (g 4, .inl (cy 1, 8, .inl f_3)), (g 5, .inl (cy 1, 8, .inl f_4)), (g 6, .inl (cy 1, 8, .inl f_5)), (g 7, .inl (cy 1, 8, .inl f_6)), (g 8, .inl (cy 1, 8, .inl f_7)), (g 10, .inl (cy 3, 8, .inl f_8)), (g 11, .inl (cy 2, 8, .inr (.inl f_9))), (g 12, .inl (cy 2, 8, .inr (.inl f_10))), (g 13, .inl (cy 1, 8, .inl f_11)), (g 15, .inl (cy 2, 8, .inr (.inl f_12))), (g 16, .inl (cy 1, 8, .inl f_13)), (g 21, .inl (cy 1, 8, .inl f_14)), (g 23, .inl (cy 1, 32, .inl f_56)), (g 28, .inl (cy 1, 8, .inl f_15)), (g 29, .inl (cy 1, 8, .inl f_16))] := ⟨upd f_54 (Int32.toNatClampNeg 17) 0, hP, hD⟩
        clear hP hD
        obtain ⟨f_56, hP, hD⟩ := hPD
        refine lv_iinc (v := 18) (lv' := [(2, .int 18), (0, .ref z0), (1, .int 4)]) hx hb dX13_forgets_138 hl (k := 0) rfl (by decide) (by decide) rfl (fun ls hl => ?_)
        refine lv_goto (tgt := 122) hx hb dX13_forgets_141 (by decide) ?_
        refine lv_iload_n hx hb dX13_forgets_122 rfl (lv_at hl 0 rfl) ?_
        refine lv_iconst (v := 4) hx hb dX13_forgets_123 (by decide) ?_
        refine lv_iload_n hx hb dX13_forgets_124 rfl (lv_at hl 2 rfl) ?_
        refine lv_imul hx hb dX13_forgets_125 ?_
        refine x_ci (y := 16) (by decide) ?_
        refine lv_iconst (v := 4) hx hb dX13_forgets_126 (by decide) ?_
        refine lv_iadd hx hb dX13_forgets_127 ?_
        refine x_ci (y := 20) (by decide) ?_
        refine lv_icmp_ge (tgt := 144) hx hb dX13_forgets_128 (by decide) (fun c_57 => ?_) (fun c_57 => ?_)
        · exact absurd c_57 (by decide)
        · refine lv_aload_n hx hb dX13_forgets_131 rfl (lv_at hl 1 rfl) ?_
          refine va_get (D := D) (ci := 13) (v := .ref (g 23)) (C := RX13) (T := TX13) (N := 68) hx hb hts iG13 hown hK.1 hP 0 rfl rfl 26 (by decide) (hts _ gw1148) (fun _ h9 => h9) rfl dX13_forgets_132 ?_
          refine lv_iload_n hx hb dX13_forgets_135 rfl (lv_at hl 0 rfl) ?_
          refine lv_iconst (v := 0) hx hb dX13_forgets_136 (by decide) ?_
          refine va_iast hx hb hK.1 hP hD hS 15 1 rfl rfl (show vp_in 18 32 by unfold vp_in; decide) dX13_forgets_137 (fun H locs hP hD hS => ?_)
          have hPD : ∃ f_58 : Nat → Int32, va_P D vwCl [(z0, .inr (13, xM g 0 0 0)), (g 1, .inl (cy 3, 8, .inl f_1)), (g 2, .inl (cy 1, 8, .inl f_2)), (g 4, .inl (cy 1, 8, .inl f_3)), (g 5, .inl (cy 1, 8, .inl f_4)), (g 6, .inl (cy 1, 8, .inl f_5)), (g 7, .inl (cy 1, 8, .inl f_6)), (g 8, .inl (cy 1, 8, .inl f_7)), (g 10, .inl (cy 3, 8, .inl f_8)), (g 11, .inl (cy 2, 8, .inr (.inl f_9))), (g 12, .inl (cy 2, 8, .inr (.inl f_10))), (g 13, .inl (cy 1, 8, .inl f_11)), (g 15, .inl (cy 2, 8, .inr (.inl f_12))), (g 16, .inl (cy 1, 8, .inl f_13)), (g 21, .inl (cy 1, 8, .inl f_14)), (g 23, .inl (cy 1, 32, .inl f_58)), (g 28, .inl (cy 1, 8, .inl f_15)), (g 29, .inl (cy 1, 8, .inl f_16))] H ∧ va_D A [(z0, .inr (13, xM g 0 0 0)), (g 1, .inl (cy 3, 8, .inl f_1)), (g 2, .inl (cy 1, 8, .inl f_2)), (g 4, .inl (cy 1, 8, .inl f_3)), (g 5, .inl (cy 1, 8, .inl f_4)), (g 6, .inl (cy 1, 8, .inl f_5)), (g 7, .inl (cy 1, 8, .inl f_6)), (g 8, .inl (cy 1, 8, .inl f_7)), (g 10, .inl (cy 3, 8, .inl f_8)), (g 11, .inl (cy 2, 8, .inr (.inl f_9))), (g 12, .inl (cy 2, 8, .inr (.inl f_10))), (g 13, .inl (cy 1, 8, .inl f_11)), (g 15, .inl (cy 2, 8, .inr (.inl f_12))), (g 16, .inl (cy 1, 8, .inl f_13)), (g 21, .inl (cy 1, 8, .inl f_14)), (g 23, .inl (cy 1, 32, .inl f_58)), (g 28, .inl (cy 1, 8, .inl f_15)), (g 29, .inl (cy 1, 8, .inl f_16))] := ⟨upd f_56 (Int32.toNatClampNeg 18) 0, hP, hD⟩
          clear hP hD
          obtain ⟨f_58, hP, hD⟩ := hPD
          refine lv_iinc (v := 19) (lv' := [(2, .int 19), (0, .ref z0), (1, .int 4)]) hx hb dX13_forgets_138 hl (k := 0) rfl (by decide) (by decide) rfl (fun ls hl => ?_)
          refine lv_goto (tgt := 122) hx hb dX13_forgets_141 (by decide) ?_
          refine lv_iload_n hx hb dX13_forgets_122 rfl (lv_at hl 0 rfl) ?_
          refine lv_iconst (v := 4) hx hb dX13_forgets_123 (by decide) ?_
          refine lv_iload_n hx hb dX13_forgets_124 rfl (lv_at hl 2 rfl) ?_
          refine lv_imul hx hb dX13_forgets_125 ?_
          refine x_ci (y := 16) (by decide) ?_
          refine lv_iconst (v := 4) hx hb dX13_forgets_126 (by decide) ?_
          refine lv_iadd hx hb dX13_forgets_127 ?_
          refine x_ci (y := 20) (by decide) ?_
          refine lv_icmp_ge (tgt := 144) hx hb dX13_forgets_128 (by decide) (fun c_59 => ?_) (fun c_59 => ?_)
          · exact absurd c_59 (by decide)
          · refine lv_aload_n hx hb dX13_forgets_131 rfl (lv_at hl 1 rfl) ?_
            refine va_get (D := D) (ci := 13) (v := .ref (g 23)) (C := RX13) (T := TX13) (N := 68) hx hb hts iG13 hown hK.1 hP 0 rfl rfl 26 (by decide) (hts _ gw1148) (fun _ h9 => h9) rfl dX13_forgets_132 ?_
            refine lv_iload_n hx hb dX13_forgets_135 rfl (lv_at hl 0 rfl) ?_
            refine lv_iconst (v := 0) hx hb dX13_forgets_136 (by decide) ?_
            refine va_iast hx hb hK.1 hP hD hS 15 1 rfl rfl (show vp_in 19 32 by unfold vp_in; decide) dX13_forgets_137 (fun H locs hP hD hS => ?_)
            have hPD : ∃ f_60 : Nat → Int32, va_P D vwCl [(z0, .inr (13, xM g 0 0 0)), (g 1, .inl (cy 3, 8, .inl f_1)), (g 2, .inl (cy 1, 8, .inl f_2)), (g 4, .inl (cy 1, 8, .inl f_3)), (g 5, .inl (cy 1, 8, .inl f_4)), (g 6, .inl (cy 1, 8, .inl f_5)), (g 7, .inl (cy 1, 8, .inl f_6)), (g 8, .inl (cy 1, 8, .inl f_7)), (g 10, .inl (cy 3, 8, .inl f_8)), (g 11, .inl (cy 2, 8, .inr (.inl f_9))), (g 12, .inl (cy 2, 8, .inr (.inl f_10))), (g 13, .inl (cy 1, 8, .inl f_11)), (g 15, .inl (cy 2, 8, .inr (.inl f_12))), (g 16, .inl (cy 1, 8, .inl f_13)), (g 21, .inl (cy 1, 8, .inl f_14)), (g 23, .inl (cy 1, 32, .inl f_60)), (g 28, .inl (cy 1, 8, .inl f_15)), (g 29, .inl (cy 1, 8, .inl f_16))] H ∧ va_D A [(z0, .inr (13, xM g 0 0 0)), (g 1, .inl (cy 3, 8, .inl f_1)), (g 2, .inl (cy 1, 8, .inl f_2)), (g 4, .inl (cy 1, 8, .inl f_3)), (g 5, .inl (cy 1, 8, .inl f_4)), (g 6, .inl (cy 1, 8, .inl f_5)), (g 7, .inl (cy 1, 8, .inl f_6)), (g 8, .inl (cy 1, 8, .inl f_7)), (g 10, .inl (cy 3, 8, .inl f_8)), (g 11, .inl (cy 2, 8, .inr (.inl f_9))), (g 12, .inl (cy 2, 8, .inr (.inl f_10))), (g 13, .inl (cy 1, 8, .inl f_11)), (g 15, .inl (cy 2, 8, .inr (.inl f_12))), (g 16, .inl (cy 1, 8, .inl f_13)), (g 21, .inl (cy 1, 8, .inl f_14)), (g 23, .inl (cy 1, 32, .inl f_60)), (g 28, .inl (cy 1, 8, .inl f_15)), (g 29, .inl (cy 1, 8, .inl f_16))] := ⟨upd f_58 (Int32.toNatClampNeg 19) 0, hP, hD⟩
            clear hP hD
            obtain ⟨f_60, hP, hD⟩ := hPD
            refine lv_iinc (v := 20) (lv' := [(2, .int 20), (0, .ref z0), (1, .int 4)]) hx hb dX13_forgets_138 hl (k := 0) rfl (by decide) (by decide) rfl (fun ls hl => ?_)
            refine lv_goto (tgt := 122) hx hb dX13_forgets_141 (by decide) ?_
            refine lv_iload_n hx hb dX13_forgets_122 rfl (lv_at hl 0 rfl) ?_
            refine lv_iconst (v := 4) hx hb dX13_forgets_123 (by decide) ?_
            refine lv_iload_n hx hb dX13_forgets_124 rfl (lv_at hl 2 rfl) ?_
            refine lv_imul hx hb dX13_forgets_125 ?_
            refine x_ci (y := 16) (by decide) ?_
            refine lv_iconst (v := 4) hx hb dX13_forgets_126 (by decide) ?_
            refine lv_iadd hx hb dX13_forgets_127 ?_
            refine x_ci (y := 20) (by decide) ?_
            refine lv_icmp_ge (tgt := 144) hx hb dX13_forgets_128 (by decide) (fun c_61 => ?_) (fun c_61 => ?_)
            · have hP9 := hP.sub (ws' := [(z0, .inr (13, xM g 0 0 0)), (g 1, .inl (cy 3, 8, .inl f_1)), (g 2, .inl (cy 1, 8, .inl f_2)), (g 4, .inl (cy 1, 8, .inl f_3)), (g 10, .inl (cy 3, 8, .inl f_8)), (g 11, .inl (cy 2, 8, .inr (.inl f_9)))]) [0, 1, 2, 3, 8, 9] rfl
              have hD9 := hD.sub (ws' := [(z0, .inr (13, xM g 0 0 0)), (g 1, .inl (cy 3, 8, .inl f_1)), (g 2, .inl (cy 1, 8, .inl f_2)), (g 4, .inl (cy 1, 8, .inl f_3)), (g 10, .inl (cy 3, 8, .inl f_8)), (g 11, .inl (cy 2, 8, .inr (.inl f_9)))]) [0, 1, 2, 3, 8, 9] (by decide) rfl
              refine W.widen (k := 0) (n := 0) (Nat.le_of_ble_eq_true rfl) (Nat.le_of_ble_eq_true rfl) ?_
              exact W.vret hx hb hr (fun t ht hW => ⟨⟨(f_1, f_2, f_3, f_8, f_9), rfl, trivial, by rw [ht]; exact hP9, hD9⟩, hS.F ht⟩) hS.2.2 dX13_forgets_144
            · exact absurd c_61 (by decide)
  · refine lv_iconst (v := 4) hx hb dX13_forgets_118 (by decide) ?_
    refine lv_iload_n hx hb dX13_forgets_119 rfl (lv_at hl 1 rfl) ?_
    refine lv_imul hx hb dX13_forgets_120 ?_
    refine x_ci (y := 20) (by decide) ?_
    refine lv_istore_n (lv' := [(2, .int 20), (0, .ref z0), (1, .int 5)]) hx hb dX13_forgets_121 rfl hl (by decide) rfl (fun ls hl => ?_)
    refine lv_iload_n hx hb dX13_forgets_122 rfl (lv_at hl 0 rfl) ?_
    refine lv_iconst (v := 4) hx hb dX13_forgets_123 (by decide) ?_
    refine lv_iload_n hx hb dX13_forgets_124 rfl (lv_at hl 2 rfl) ?_
    refine lv_imul hx hb dX13_forgets_125 ?_
    refine x_ci (y := 20) (by decide) ?_
    refine lv_iconst (v := 4) hx hb dX13_forgets_126 (by decide) ?_
    refine lv_iadd hx hb dX13_forgets_127 ?_
    refine x_ci (y := 24) (by decide) ?_
    refine lv_icmp_ge (tgt := 144) hx hb dX13_forgets_128 (by decide) (fun c_62 => ?_) (fun c_62 => ?_)
    · exact absurd c_62 (by decide)
    · refine lv_aload_n hx hb dX13_forgets_131 rfl (lv_at hl 1 rfl) ?_
      refine va_get (D := D) (ci := 13) (v := .ref (g 23)) (C := RX13) (T := TX13) (N := 68) hx hb hts iG13 hown hK.1 hP 0 rfl rfl 26 (by decide) (hts _ gw1148) (fun _ h9 => h9) rfl dX13_forgets_132 ?_
      refine lv_iload_n hx hb dX13_forgets_135 rfl (lv_at hl 0 rfl) ?_
      refine lv_iconst (v := 0) hx hb dX13_forgets_136 (by decide) ?_
      refine va_iast hx hb hK.1 hP hD hS 15 1 rfl rfl (show vp_in 20 32 by unfold vp_in; decide) dX13_forgets_137 (fun H locs hP hD hS => ?_)
      have hPD : ∃ f_63 : Nat → Int32, va_P D vwCl [(z0, .inr (13, xM g 0 0 0)), (g 1, .inl (cy 3, 8, .inl f_1)), (g 2, .inl (cy 1, 8, .inl f_2)), (g 4, .inl (cy 1, 8, .inl f_3)), (g 5, .inl (cy 1, 8, .inl f_4)), (g 6, .inl (cy 1, 8, .inl f_5)), (g 7, .inl (cy 1, 8, .inl f_6)), (g 8, .inl (cy 1, 8, .inl f_7)), (g 10, .inl (cy 3, 8, .inl f_8)), (g 11, .inl (cy 2, 8, .inr (.inl f_9))), (g 12, .inl (cy 2, 8, .inr (.inl f_10))), (g 13, .inl (cy 1, 8, .inl f_11)), (g 15, .inl (cy 2, 8, .inr (.inl f_12))), (g 16, .inl (cy 1, 8, .inl f_13)), (g 21, .inl (cy 1, 8, .inl f_14)), (g 23, .inl (cy 1, 32, .inl f_63)), (g 28, .inl (cy 1, 8, .inl f_15)), (g 29, .inl (cy 1, 8, .inl f_16))] H ∧ va_D A [(z0, .inr (13, xM g 0 0 0)), (g 1, .inl (cy 3, 8, .inl f_1)), (g 2, .inl (cy 1, 8, .inl f_2)), (g 4, .inl (cy 1, 8, .inl f_3)), (g 5, .inl (cy 1, 8, .inl f_4)), (g 6, .inl (cy 1, 8, .inl f_5)), (g 7, .inl (cy 1, 8, .inl f_6)), (g 8, .inl (cy 1, 8, .inl f_7)), (g 10, .inl (cy 3, 8, .inl f_8)), (g 11, .inl (cy 2, 8, .inr (.inl f_9))), (g 12, .inl (cy 2, 8, .inr (.inl f_10))), (g 13, .inl (cy 1, 8, .inl f_11)), (g 15, .inl (cy 2, 8, .inr (.inl f_12))), (g 16, .inl (cy 1, 8, .inl f_13)), (g 21, .inl (cy 1, 8, .inl f_14)), (g 23, .inl (cy 1, 32, .inl f_63)), (g 28, .inl (cy 1, 8, .inl f_15)), (g 29, .inl (cy 1, 8, .inl f_16))] := ⟨upd (fun _ => 0) (Int32.toNatClampNeg 20) 0, hP, hD⟩
      clear hP hD
      obtain ⟨f_63, hP, hD⟩ := hPD
      refine lv_iinc (v := 21) (lv' := [(2, .int 21), (0, .ref z0), (1, .int 5)]) hx hb dX13_forgets_138 hl (k := 0) rfl (by decide) (by decide) rfl (fun ls hl => ?_)
      refine lv_goto (tgt := 122) hx hb dX13_forgets_141 (by decide) ?_
      refine lv_iload_n hx hb dX13_forgets_122 rfl (lv_at hl 0 rfl) ?_
      refine lv_iconst (v := 4) hx hb dX13_forgets_123 (by decide) ?_
      refine lv_iload_n hx hb dX13_forgets_124 rfl (lv_at hl 2 rfl) ?_
      refine lv_imul hx hb dX13_forgets_125 ?_
      refine x_ci (y := 20) (by decide) ?_
      refine lv_iconst (v := 4) hx hb dX13_forgets_126 (by decide) ?_
      refine lv_iadd hx hb dX13_forgets_127 ?_
      refine x_ci (y := 24) (by decide) ?_
      refine lv_icmp_ge (tgt := 144) hx hb dX13_forgets_128 (by decide) (fun c_64 => ?_) (fun c_64 => ?_)
      · exact absurd c_64 (by decide)
      · refine lv_aload_n hx hb dX13_forgets_131 rfl (lv_at hl 1 rfl) ?_
        refine va_get (D := D) (ci := 13) (v := .ref (g 23)) (C := RX13) (T := TX13) (N := 68) hx hb hts iG13 hown hK.1 hP 0 rfl rfl 26 (by decide) (hts _ gw1148) (fun _ h9 => h9) rfl dX13_forgets_132 ?_
        refine lv_iload_n hx hb dX13_forgets_135 rfl (lv_at hl 0 rfl) ?_
        refine lv_iconst (v := 0) hx hb dX13_forgets_136 (by decide) ?_
        refine va_iast hx hb hK.1 hP hD hS 15 1 rfl rfl (show vp_in 21 32 by unfold vp_in; decide) dX13_forgets_137 (fun H locs hP hD hS => ?_)
        have hPD : ∃ f_65 : Nat → Int32, va_P D vwCl [(z0, .inr (13, xM g 0 0 0)), (g 1, .inl (cy 3, 8, .inl f_1)), (g 2, .inl (cy 1, 8, .inl f_2)), (g 4, .inl (cy 1, 8, .inl f_3)), (g 5, .inl (cy 1, 8, .inl f_4)), (g 6, .inl (cy 1, 8, .inl f_5)), (g 7, .inl (cy 1, 8, .inl f_6)), (g 8, .inl (cy 1, 8, .inl f_7)), (g 10, .inl (cy 3, 8, .inl f_8)), (g 11, .inl (cy 2, 8, .inr (.inl f_9))), (g 12, .inl (cy 2, 8, .inr (.inl f_10))), (g 13, .inl (cy 1, 8, .inl f_11)), (g 15, .inl (cy 2, 8, .inr (.inl f_12))), (g 16, .inl (cy 1, 8, .inl f_13)), (g 21, .inl (cy 1, 8, .inl f_14)), (g 23, .inl (cy 1, 32, .inl f_65)), (g 28, .inl (cy 1, 8, .inl f_15)), (g 29, .inl (cy 1, 8, .inl f_16))] H ∧ va_D A [(z0, .inr (13, xM g 0 0 0)), (g 1, .inl (cy 3, 8, .inl f_1)), (g 2, .inl (cy 1, 8, .inl f_2)), (g 4, .inl (cy 1, 8, .inl f_3)), (g 5, .inl (cy 1, 8, .inl f_4)), (g 6, .inl (cy 1, 8, .inl f_5)), (g 7, .inl (cy 1, 8, .inl f_6)), (g 8, .inl (cy 1, 8, .inl f_7)), (g 10, .inl (cy 3, 8, .inl f_8)), (g 11, .inl (cy 2, 8, .inr (.inl f_9))), (g 12, .inl (cy 2, 8, .inr (.inl f_10))), (g 13, .inl (cy 1, 8, .inl f_11)), (g 15, .inl (cy 2, 8, .inr (.inl f_12))), (g 16, .inl (cy 1, 8, .inl f_13)), (g 21, .inl (cy 1, 8, .inl f_14)), (g 23, .inl (cy 1, 32, .inl f_65)), (g 28, .inl (cy 1, 8, .inl f_15)), (g 29, .inl (cy 1, 8, .inl f_16))] := ⟨upd f_63 (Int32.toNatClampNeg 21) 0, hP, hD⟩
        clear hP hD
        obtain ⟨f_65, hP, hD⟩ := hPD
        refine lv_iinc (v := 22) (lv' := [(2, .int 22), (0, .ref z0), (1, .int 5)]) hx hb dX13_forgets_138 hl (k := 0) rfl (by decide) (by decide) rfl (fun ls hl => ?_)
        refine lv_goto (tgt := 122) hx hb dX13_forgets_141 (by decide) ?_
        refine lv_iload_n hx hb dX13_forgets_122 rfl (lv_at hl 0 rfl) ?_
        refine lv_iconst (v := 4) hx hb dX13_forgets_123 (by decide) ?_
        refine lv_iload_n hx hb dX13_forgets_124 rfl (lv_at hl 2 rfl) ?_
        refine lv_imul hx hb dX13_forgets_125 ?_
        refine x_ci (y := 20) (by decide) ?_
        refine lv_iconst (v := 4) hx hb dX13_forgets_126 (by decide) ?_
        refine lv_iadd hx hb dX13_forgets_127 ?_
        refine x_ci (y := 24) (by decide) ?_
        refine lv_icmp_ge (tgt := 144) hx hb dX13_forgets_128 (by decide) (fun c_66 => ?_) (fun c_66 => ?_)
        · exact absurd c_66 (by decide)
        · refine lv_aload_n hx hb dX13_forgets_131 rfl (lv_at hl 1 rfl) ?_
          refine va_get (D := D) (ci := 13) (v := .ref (g 23)) (C := RX13) (T := TX13) (N := 68) hx hb hts iG13 hown hK.1 hP 0 rfl rfl 26 (by decide) (hts _ gw1148) (fun _ h9 => h9) rfl dX13_forgets_132 ?_
          refine lv_iload_n hx hb dX13_forgets_135 rfl (lv_at hl 0 rfl) ?_
          refine lv_iconst (v := 0) hx hb dX13_forgets_136 (by decide) ?_
          refine va_iast hx hb hK.1 hP hD hS 15 1 rfl rfl (show vp_in 22 32 by unfold vp_in; decide) dX13_forgets_137 (fun H locs hP hD hS => ?_)
          have hPD : ∃ f_67 : Nat → Int32, va_P D vwCl [(z0, .inr (13, xM g 0 0 0)), (g 1, .inl (cy 3, 8, .inl f_1)), (g 2, .inl (cy 1, 8, .inl f_2)), (g 4, .inl (cy 1, 8, .inl f_3)), (g 5, .inl (cy 1, 8, .inl f_4)), (g 6, .inl (cy 1, 8, .inl f_5)), (g 7, .inl (cy 1, 8, .inl f_6)), (g 8, .inl (cy 1, 8, .inl f_7)), (g 10, .inl (cy 3, 8, .inl f_8)), (g 11, .inl (cy 2, 8, .inr (.inl f_9))), (g 12, .inl (cy 2, 8, .inr (.inl f_10))), (g 13, .inl (cy 1, 8, .inl f_11)), (g 15, .inl (cy 2, 8, .inr (.inl f_12))), (g 16, .inl (cy 1, 8, .inl f_13)), (g 21, .inl (cy 1, 8, .inl f_14)), (g 23, .inl (cy 1, 32, .inl f_67)), (g 28, .inl (cy 1, 8, .inl f_15)), (g 29, .inl (cy 1, 8, .inl f_16))] H ∧ va_D A [(z0, .inr (13, xM g 0 0 0)), (g 1, .inl (cy 3, 8, .inl f_1)), (g 2, .inl (cy 1, 8, .inl f_2)), (g 4, .inl (cy 1, 8, .inl f_3)), (g 5, .inl (cy 1, 8, .inl f_4)), (g 6, .inl (cy 1, 8, .inl f_5)), (g 7, .inl (cy 1, 8, .inl f_6)), (g 8, .inl (cy 1, 8, .inl f_7)), (g 10, .inl (cy 3, 8, .inl f_8)), (g 11, .inl (cy 2, 8, .inr (.inl f_9))), (g 12, .inl (cy 2, 8, .inr (.inl f_10))), (g 13, .inl (cy 1, 8, .inl f_11)), (g 15, .inl (cy 2, 8, .inr (.inl f_12))), (g 16, .inl (cy 1, 8, .inl f_13)), (g 21, .inl (cy 1, 8, .inl f_14)), (g 23, .inl (cy 1, 32, .inl f_67)), (g 28, .inl (cy 1, 8, .inl f_15)), (g 29, .inl (cy 1, 8, .inl f_16))] := ⟨upd f_65 (Int32.toNatClampNeg 22) 0, hP, hD⟩
          clear hP hD
          obtain ⟨f_67, hP, hD⟩ := hPD
          refine lv_iinc (v := 23) (lv' := [(2, .int 23), (0, .ref z0), (1, .int 5)]) hx hb dX13_forgets_138 hl (k := 0) rfl (by decide) (by decide) rfl (fun ls hl => ?_)
          refine lv_goto (tgt := 122) hx hb dX13_forgets_141 (by decide) ?_
          refine lv_iload_n hx hb dX13_forgets_122 rfl (lv_at hl 0 rfl) ?_
          refine lv_iconst (v := 4) hx hb dX13_forgets_123 (by decide) ?_
          refine lv_iload_n hx hb dX13_forgets_124 rfl (lv_at hl 2 rfl) ?_
          refine lv_imul hx hb dX13_forgets_125 ?_
          refine x_ci (y := 20) (by decide) ?_
          refine lv_iconst (v := 4) hx hb dX13_forgets_126 (by decide) ?_
          refine lv_iadd hx hb dX13_forgets_127 ?_
          refine x_ci (y := 24) (by decide) ?_
          refine lv_icmp_ge (tgt := 144) hx hb dX13_forgets_128 (by decide) (fun c_68 => ?_) (fun c_68 => ?_)
          · exact absurd c_68 (by decide)
          · refine lv_aload_n hx hb dX13_forgets_131 rfl (lv_at hl 1 rfl) ?_
            refine va_get (D := D) (ci := 13) (v := .ref (g 23)) (C := RX13) (T := TX13) (N := 68) hx hb hts iG13 hown hK.1 hP 0 rfl rfl 26 (by decide) (hts _ gw1148) (fun _ h9 => h9) rfl dX13_forgets_132 ?_
            refine lv_iload_n hx hb dX13_forgets_135 rfl (lv_at hl 0 rfl) ?_
            refine lv_iconst (v := 0) hx hb dX13_forgets_136 (by decide) ?_
            refine va_iast hx hb hK.1 hP hD hS 15 1 rfl rfl (show vp_in 23 32 by unfold vp_in; decide) dX13_forgets_137 (fun H locs hP hD hS => ?_)
            have hPD : ∃ f_69 : Nat → Int32, va_P D vwCl [(z0, .inr (13, xM g 0 0 0)), (g 1, .inl (cy 3, 8, .inl f_1)), (g 2, .inl (cy 1, 8, .inl f_2)), (g 4, .inl (cy 1, 8, .inl f_3)), (g 5, .inl (cy 1, 8, .inl f_4)), (g 6, .inl (cy 1, 8, .inl f_5)), (g 7, .inl (cy 1, 8, .inl f_6)), (g 8, .inl (cy 1, 8, .inl f_7)), (g 10, .inl (cy 3, 8, .inl f_8)), (g 11, .inl (cy 2, 8, .inr (.inl f_9))), (g 12, .inl (cy 2, 8, .inr (.inl f_10))), (g 13, .inl (cy 1, 8, .inl f_11)), (g 15, .inl (cy 2, 8, .inr (.inl f_12))), (g 16, .inl (cy 1, 8, .inl f_13)), (g 21, .inl (cy 1, 8, .inl f_14)), (g 23, .inl (cy 1, 32, .inl f_69)), (g 28, .inl (cy 1, 8, .inl f_15)), (g 29, .inl (cy 1, 8, .inl f_16))] H ∧ va_D A [(z0, .inr (13, xM g 0 0 0)), (g 1, .inl (cy 3, 8, .inl f_1)), (g 2, .inl (cy 1, 8, .inl f_2)), (g 4, .inl (cy 1, 8, .inl f_3)), (g 5, .inl (cy 1, 8, .inl f_4)), (g 6, .inl (cy 1, 8, .inl f_5)), (g 7, .inl (cy 1, 8, .inl f_6)), (g 8, .inl (cy 1, 8, .inl f_7)), (g 10, .inl (cy 3, 8, .inl f_8)), (g 11, .inl (cy 2, 8, .inr (.inl f_9))), (g 12, .inl (cy 2, 8, .inr (.inl f_10))), (g 13, .inl (cy 1, 8, .inl f_11)), (g 15, .inl (cy 2, 8, .inr (.inl f_12))), (g 16, .inl (cy 1, 8, .inl f_13)), (g 21, .inl (cy 1, 8, .inl f_14)), (g 23, .inl (cy 1, 32, .inl f_69)), (g 28, .inl (cy 1, 8, .inl f_15)), (g 29, .inl (cy 1, 8, .inl f_16))] := ⟨upd f_67 (Int32.toNatClampNeg 23) 0, hP, hD⟩
            clear hP hD
            obtain ⟨f_69, hP, hD⟩ := hPD
            refine lv_iinc (v := 24) (lv' := [(2, .int 24), (0, .ref z0), (1, .int 5)]) hx hb dX13_forgets_138 hl (k := 0) rfl (by decide) (by decide) rfl (fun ls hl => ?_)
            refine lv_goto (tgt := 122) hx hb dX13_forgets_141 (by decide) ?_
            refine lv_iload_n hx hb dX13_forgets_122 rfl (lv_at hl 0 rfl) ?_
            refine lv_iconst (v := 4) hx hb dX13_forgets_123 (by decide) ?_
            refine lv_iload_n hx hb dX13_forgets_124 rfl (lv_at hl 2 rfl) ?_
            refine lv_imul hx hb dX13_forgets_125 ?_
            refine x_ci (y := 20) (by decide) ?_
            refine lv_iconst (v := 4) hx hb dX13_forgets_126 (by decide) ?_
            refine lv_iadd hx hb dX13_forgets_127 ?_
            refine x_ci (y := 24) (by decide) ?_
            refine lv_icmp_ge (tgt := 144) hx hb dX13_forgets_128 (by decide) (fun c_70 => ?_) (fun c_70 => ?_)
            · have hP9 := hP.sub (ws' := [(z0, .inr (13, xM g 0 0 0)), (g 1, .inl (cy 3, 8, .inl f_1)), (g 2, .inl (cy 1, 8, .inl f_2)), (g 4, .inl (cy 1, 8, .inl f_3)), (g 10, .inl (cy 3, 8, .inl f_8)), (g 11, .inl (cy 2, 8, .inr (.inl f_9)))]) [0, 1, 2, 3, 8, 9] rfl
              have hD9 := hD.sub (ws' := [(z0, .inr (13, xM g 0 0 0)), (g 1, .inl (cy 3, 8, .inl f_1)), (g 2, .inl (cy 1, 8, .inl f_2)), (g 4, .inl (cy 1, 8, .inl f_3)), (g 10, .inl (cy 3, 8, .inl f_8)), (g 11, .inl (cy 2, 8, .inr (.inl f_9)))]) [0, 1, 2, 3, 8, 9] (by decide) rfl
              refine W.widen (k := 0) (n := 0) (Nat.le_of_ble_eq_true rfl) (Nat.le_of_ble_eq_true rfl) ?_
              exact W.vret hx hb hr (fun t ht hW => ⟨⟨(f_1, f_2, f_3, f_8, f_9), rfl, trivial, by rw [ht]; exact hP9, hD9⟩, hS.F ht⟩) hS.2.2 dX13_forgets_144
            · exact absurd c_70 (by decide)
  · refine lv_iconst (v := 4) hx hb dX13_forgets_118 (by decide) ?_
    refine lv_iload_n hx hb dX13_forgets_119 rfl (lv_at hl 1 rfl) ?_
    refine lv_imul hx hb dX13_forgets_120 ?_
    refine x_ci (y := 24) (by decide) ?_
    refine lv_istore_n (lv' := [(2, .int 24), (0, .ref z0), (1, .int 6)]) hx hb dX13_forgets_121 rfl hl (by decide) rfl (fun ls hl => ?_)
    refine lv_iload_n hx hb dX13_forgets_122 rfl (lv_at hl 0 rfl) ?_
    refine lv_iconst (v := 4) hx hb dX13_forgets_123 (by decide) ?_
    refine lv_iload_n hx hb dX13_forgets_124 rfl (lv_at hl 2 rfl) ?_
    refine lv_imul hx hb dX13_forgets_125 ?_
    refine x_ci (y := 24) (by decide) ?_
    refine lv_iconst (v := 4) hx hb dX13_forgets_126 (by decide) ?_
    refine lv_iadd hx hb dX13_forgets_127 ?_
    refine x_ci (y := 28) (by decide) ?_
    refine lv_icmp_ge (tgt := 144) hx hb dX13_forgets_128 (by decide) (fun c_71 => ?_) (fun c_71 => ?_)
    · exact absurd c_71 (by decide)
    · refine lv_aload_n hx hb dX13_forgets_131 rfl (lv_at hl 1 rfl) ?_
      refine va_get (D := D) (ci := 13) (v := .ref (g 23)) (C := RX13) (T := TX13) (N := 68) hx hb hts iG13 hown hK.1 hP 0 rfl rfl 26 (by decide) (hts _ gw1148) (fun _ h9 => h9) rfl dX13_forgets_132 ?_
      refine lv_iload_n hx hb dX13_forgets_135 rfl (lv_at hl 0 rfl) ?_
      refine lv_iconst (v := 0) hx hb dX13_forgets_136 (by decide) ?_
      refine va_iast hx hb hK.1 hP hD hS 15 1 rfl rfl (show vp_in 24 32 by unfold vp_in; decide) dX13_forgets_137 (fun H locs hP hD hS => ?_)
      have hPD : ∃ f_72 : Nat → Int32, va_P D vwCl [(z0, .inr (13, xM g 0 0 0)), (g 1, .inl (cy 3, 8, .inl f_1)), (g 2, .inl (cy 1, 8, .inl f_2)), (g 4, .inl (cy 1, 8, .inl f_3)), (g 5, .inl (cy 1, 8, .inl f_4)), (g 6, .inl (cy 1, 8, .inl f_5)), (g 7, .inl (cy 1, 8, .inl f_6)), (g 8, .inl (cy 1, 8, .inl f_7)), (g 10, .inl (cy 3, 8, .inl f_8)), (g 11, .inl (cy 2, 8, .inr (.inl f_9))), (g 12, .inl (cy 2, 8, .inr (.inl f_10))), (g 13, .inl (cy 1, 8, .inl f_11)), (g 15, .inl (cy 2, 8, .inr (.inl f_12))), (g 16, .inl (cy 1, 8, .inl f_13)), (g 21, .inl (cy 1, 8, .inl f_14)), (g 23, .inl (cy 1, 32, .inl f_72)), (g 28, .inl (cy 1, 8, .inl f_15)), (g 29, .inl (cy 1, 8, .inl f_16))] H ∧ va_D A [(z0, .inr (13, xM g 0 0 0)), (g 1, .inl (cy 3, 8, .inl f_1)), (g 2, .inl (cy 1, 8, .inl f_2)), (g 4, .inl (cy 1, 8, .inl f_3)), (g 5, .inl (cy 1, 8, .inl f_4)), (g 6, .inl (cy 1, 8, .inl f_5)), (g 7, .inl (cy 1, 8, .inl f_6)), (g 8, .inl (cy 1, 8, .inl f_7)), (g 10, .inl (cy 3, 8, .inl f_8)), (g 11, .inl (cy 2, 8, .inr (.inl f_9))), (g 12, .inl (cy 2, 8, .inr (.inl f_10))), (g 13, .inl (cy 1, 8, .inl f_11)), (g 15, .inl (cy 2, 8, .inr (.inl f_12))), (g 16, .inl (cy 1, 8, .inl f_13)), (g 21, .inl (cy 1, 8, .inl f_14)), (g 23, .inl (cy 1, 32, .inl f_72)), (g 28, .inl (cy 1, 8, .inl f_15)), (g 29, .inl (cy 1, 8, .inl f_16))] := ⟨upd (fun _ => 0) (Int32.toNatClampNeg 24) 0, hP, hD⟩
      clear hP hD
      obtain ⟨f_72, hP, hD⟩ := hPD
      refine lv_iinc (v := 25) (lv' := [(2, .int 25), (0, .ref z0), (1, .int 6)]) hx hb dX13_forgets_138 hl (k := 0) rfl (by decide) (by decide) rfl (fun ls hl => ?_)
      refine lv_goto (tgt := 122) hx hb dX13_forgets_141 (by decide) ?_
      refine lv_iload_n hx hb dX13_forgets_122 rfl (lv_at hl 0 rfl) ?_
      refine lv_iconst (v := 4) hx hb dX13_forgets_123 (by decide) ?_
      refine lv_iload_n hx hb dX13_forgets_124 rfl (lv_at hl 2 rfl) ?_
      refine lv_imul hx hb dX13_forgets_125 ?_
      refine x_ci (y := 24) (by decide) ?_
      refine lv_iconst (v := 4) hx hb dX13_forgets_126 (by decide) ?_
      refine lv_iadd hx hb dX13_forgets_127 ?_
      refine x_ci (y := 28) (by decide) ?_
      refine lv_icmp_ge (tgt := 144) hx hb dX13_forgets_128 (by decide) (fun c_73 => ?_) (fun c_73 => ?_)
      · exact absurd c_73 (by decide)
      · refine lv_aload_n hx hb dX13_forgets_131 rfl (lv_at hl 1 rfl) ?_
        refine va_get (D := D) (ci := 13) (v := .ref (g 23)) (C := RX13) (T := TX13) (N := 68) hx hb hts iG13 hown hK.1 hP 0 rfl rfl 26 (by decide) (hts _ gw1148) (fun _ h9 => h9) rfl dX13_forgets_132 ?_
        refine lv_iload_n hx hb dX13_forgets_135 rfl (lv_at hl 0 rfl) ?_
        refine lv_iconst (v := 0) hx hb dX13_forgets_136 (by decide) ?_
        refine va_iast hx hb hK.1 hP hD hS 15 1 rfl rfl (show vp_in 25 32 by unfold vp_in; decide) dX13_forgets_137 (fun H locs hP hD hS => ?_)
        have hPD : ∃ f_74 : Nat → Int32, va_P D vwCl [(z0, .inr (13, xM g 0 0 0)), (g 1, .inl (cy 3, 8, .inl f_1)), (g 2, .inl (cy 1, 8, .inl f_2)), (g 4, .inl (cy 1, 8, .inl f_3)), (g 5, .inl (cy 1, 8, .inl f_4)), (g 6, .inl (cy 1, 8, .inl f_5)), (g 7, .inl (cy 1, 8, .inl f_6)), (g 8, .inl (cy 1, 8, .inl f_7)), (g 10, .inl (cy 3, 8, .inl f_8)), (g 11, .inl (cy 2, 8, .inr (.inl f_9))), (g 12, .inl (cy 2, 8, .inr (.inl f_10))), (g 13, .inl (cy 1, 8, .inl f_11)), (g 15, .inl (cy 2, 8, .inr (.inl f_12))), (g 16, .inl (cy 1, 8, .inl f_13)), (g 21, .inl (cy 1, 8, .inl f_14)), (g 23, .inl (cy 1, 32, .inl f_74)), (g 28, .inl (cy 1, 8, .inl f_15)), (g 29, .inl (cy 1, 8, .inl f_16))] H ∧ va_D A [(z0, .inr (13, xM g 0 0 0)), (g 1, .inl (cy 3, 8, .inl f_1)), (g 2, .inl (cy 1, 8, .inl f_2)), (g 4, .inl (cy 1, 8, .inl f_3)), (g 5, .inl (cy 1, 8, .inl f_4)), (g 6, .inl (cy 1, 8, .inl f_5)), (g 7, .inl (cy 1, 8, .inl f_6)), (g 8, .inl (cy 1, 8, .inl f_7)), (g 10, .inl (cy 3, 8, .inl f_8)), (g 11, .inl (cy 2, 8, .inr (.inl f_9))), (g 12, .inl (cy 2, 8, .inr (.inl f_10))), (g 13, .inl (cy 1, 8, .inl f_11)), (g 15, .inl (cy 2, 8, .inr (.inl f_12))), (g 16, .inl (cy 1, 8, .inl f_13)), (g 21, .inl (cy 1, 8, .inl f_14)), (g 23, .inl (cy 1, 32, .inl f_74)), (g 28, .inl (cy 1, 8, .inl f_15)), (g 29, .inl (cy 1, 8, .inl f_16))] := ⟨upd f_72 (Int32.toNatClampNeg 25) 0, hP, hD⟩
        clear hP hD
        obtain ⟨f_74, hP, hD⟩ := hPD
        refine lv_iinc (v := 26) (lv' := [(2, .int 26), (0, .ref z0), (1, .int 6)]) hx hb dX13_forgets_138 hl (k := 0) rfl (by decide) (by decide) rfl (fun ls hl => ?_)
        refine lv_goto (tgt := 122) hx hb dX13_forgets_141 (by decide) ?_
        refine lv_iload_n hx hb dX13_forgets_122 rfl (lv_at hl 0 rfl) ?_
        refine lv_iconst (v := 4) hx hb dX13_forgets_123 (by decide) ?_
        refine lv_iload_n hx hb dX13_forgets_124 rfl (lv_at hl 2 rfl) ?_
        refine lv_imul hx hb dX13_forgets_125 ?_
        refine x_ci (y := 24) (by decide) ?_
        refine lv_iconst (v := 4) hx hb dX13_forgets_126 (by decide) ?_
        refine lv_iadd hx hb dX13_forgets_127 ?_
        refine x_ci (y := 28) (by decide) ?_
        refine lv_icmp_ge (tgt := 144) hx hb dX13_forgets_128 (by decide) (fun c_75 => ?_) (fun c_75 => ?_)
        · exact absurd c_75 (by decide)
        · refine lv_aload_n hx hb dX13_forgets_131 rfl (lv_at hl 1 rfl) ?_
          refine va_get (D := D) (ci := 13) (v := .ref (g 23)) (C := RX13) (T := TX13) (N := 68) hx hb hts iG13 hown hK.1 hP 0 rfl rfl 26 (by decide) (hts _ gw1148) (fun _ h9 => h9) rfl dX13_forgets_132 ?_
          refine lv_iload_n hx hb dX13_forgets_135 rfl (lv_at hl 0 rfl) ?_
          refine lv_iconst (v := 0) hx hb dX13_forgets_136 (by decide) ?_
          refine va_iast hx hb hK.1 hP hD hS 15 1 rfl rfl (show vp_in 26 32 by unfold vp_in; decide) dX13_forgets_137 (fun H locs hP hD hS => ?_)
          have hPD : ∃ f_76 : Nat → Int32, va_P D vwCl [(z0, .inr (13, xM g 0 0 0)), (g 1, .inl (cy 3, 8, .inl f_1)), (g 2, .inl (cy 1, 8, .inl f_2)), (g 4, .inl (cy 1, 8, .inl f_3)), (g 5, .inl (cy 1, 8, .inl f_4)), (g 6, .inl (cy 1, 8, .inl f_5)), (g 7, .inl (cy 1, 8, .inl f_6)), (g 8, .inl (cy 1, 8, .inl f_7)), (g 10, .inl (cy 3, 8, .inl f_8)), (g 11, .inl (cy 2, 8, .inr (.inl f_9))), (g 12, .inl (cy 2, 8, .inr (.inl f_10))), (g 13, .inl (cy 1, 8, .inl f_11)), (g 15, .inl (cy 2, 8, .inr (.inl f_12))), (g 16, .inl (cy 1, 8, .inl f_13)), (g 21, .inl (cy 1, 8, .inl f_14)), (g 23, .inl (cy 1, 32, .inl f_76)), (g 28, .inl (cy 1, 8, .inl f_15)), (g 29, .inl (cy 1, 8, .inl f_16))] H ∧ va_D A [(z0, .inr (13, xM g 0 0 0)), (g 1, .inl (cy 3, 8, .inl f_1)), (g 2, .inl (cy 1, 8, .inl f_2)), (g 4, .inl (cy 1, 8, .inl f_3)), (g 5, .inl (cy 1, 8, .inl f_4)), (g 6, .inl (cy 1, 8, .inl f_5)), (g 7, .inl (cy 1, 8, .inl f_6)), (g 8, .inl (cy 1, 8, .inl f_7)), (g 10, .inl (cy 3, 8, .inl f_8)), (g 11, .inl (cy 2, 8, .inr (.inl f_9))), (g 12, .inl (cy 2, 8, .inr (.inl f_10))), (g 13, .inl (cy 1, 8, .inl f_11)), (g 15, .inl (cy 2, 8, .inr (.inl f_12))), (g 16, .inl (cy 1, 8, .inl f_13)), (g 21, .inl (cy 1, 8, .inl f_14)), (g 23, .inl (cy 1, 32, .inl f_76)), (g 28, .inl (cy 1, 8, .inl f_15)), (g 29, .inl (cy 1, 8, .inl f_16))] := ⟨upd f_74 (Int32.toNatClampNeg 26) 0, hP, hD⟩
          clear hP hD
          obtain ⟨f_76, hP, hD⟩ := hPD
          refine lv_iinc (v := 27) (lv' := [(2, .int 27), (0, .ref z0), (1, .int 6)]) hx hb dX13_forgets_138 hl (k := 0) rfl (by decide) (by decide) rfl (fun ls hl => ?_)
          refine lv_goto (tgt := 122) hx hb dX13_forgets_141 (by decide) ?_
          refine lv_iload_n hx hb dX13_forgets_122 rfl (lv_at hl 0 rfl) ?_
          refine lv_iconst (v := 4) hx hb dX13_forgets_123 (by decide) ?_
          refine lv_iload_n hx hb dX13_forgets_124 rfl (lv_at hl 2 rfl) ?_
          refine lv_imul hx hb dX13_forgets_125 ?_
          refine x_ci (y := 24) (by decide) ?_
          refine lv_iconst (v := 4) hx hb dX13_forgets_126 (by decide) ?_
          refine lv_iadd hx hb dX13_forgets_127 ?_
          refine x_ci (y := 28) (by decide) ?_
          refine lv_icmp_ge (tgt := 144) hx hb dX13_forgets_128 (by decide) (fun c_77 => ?_) (fun c_77 => ?_)
          · exact absurd c_77 (by decide)
          · refine lv_aload_n hx hb dX13_forgets_131 rfl (lv_at hl 1 rfl) ?_
            refine va_get (D := D) (ci := 13) (v := .ref (g 23)) (C := RX13) (T := TX13) (N := 68) hx hb hts iG13 hown hK.1 hP 0 rfl rfl 26 (by decide) (hts _ gw1148) (fun _ h9 => h9) rfl dX13_forgets_132 ?_
            refine lv_iload_n hx hb dX13_forgets_135 rfl (lv_at hl 0 rfl) ?_
            refine lv_iconst (v := 0) hx hb dX13_forgets_136 (by decide) ?_
            refine va_iast hx hb hK.1 hP hD hS 15 1 rfl rfl (show vp_in 27 32 by unfold vp_in; decide) dX13_forgets_137 (fun H locs hP hD hS => ?_)
            have hPD : ∃ f_78 : Nat → Int32, va_P D vwCl [(z0, .inr (13, xM g 0 0 0)), (g 1, .inl (cy 3, 8, .inl f_1)), (g 2, .inl (cy 1, 8, .inl f_2)), (g 4, .inl (cy 1, 8, .inl f_3)), (g 5, .inl (cy 1, 8, .inl f_4)), (g 6, .inl (cy 1, 8, .inl f_5)), (g 7, .inl (cy 1, 8, .inl f_6)), (g 8, .inl (cy 1, 8, .inl f_7)), (g 10, .inl (cy 3, 8, .inl f_8)), (g 11, .inl (cy 2, 8, .inr (.inl f_9))), (g 12, .inl (cy 2, 8, .inr (.inl f_10))), (g 13, .inl (cy 1, 8, .inl f_11)), (g 15, .inl (cy 2, 8, .inr (.inl f_12))), (g 16, .inl (cy 1, 8, .inl f_13)), (g 21, .inl (cy 1, 8, .inl f_14)), (g 23, .inl (cy 1, 32, .inl f_78)), (g 28, .inl (cy 1, 8, .inl f_15)), (g 29, .inl (cy 1, 8, .inl f_16))] H ∧ va_D A [(z0, .inr (13, xM g 0 0 0)), (g 1, .inl (cy 3, 8, .inl f_1)), (g 2, .inl (cy 1, 8, .inl f_2)), (g 4, .inl (cy 1, 8, .inl f_3)), (g 5, .inl (cy 1, 8, .inl f_4)), (g 6, .inl (cy 1, 8, .inl f_5)), (g 7, .inl (cy 1, 8, .inl f_6)), (g 8, .inl (cy 1, 8, .inl f_7)), (g 10, .inl (cy 3, 8, .inl f_8)), (g 11, .inl (cy 2, 8, .inr (.inl f_9))), (g 12, .inl (cy 2, 8, .inr (.inl f_10))), (g 13, .inl (cy 1, 8, .inl f_11)), (g 15, .inl (cy 2, 8, .inr (.inl f_12))), (g 16, .inl (cy 1, 8, .inl f_13)), (g 21, .inl (cy 1, 8, .inl f_14)), (g 23, .inl (cy 1, 32, .inl f_78)), (g 28, .inl (cy 1, 8, .inl f_15)), (g 29, .inl (cy 1, 8, .inl f_16))] := ⟨upd f_76 (Int32.toNatClampNeg 27) 0, hP, hD⟩
            clear hP hD
            obtain ⟨f_78, hP, hD⟩ := hPD
            refine lv_iinc (v := 28) (lv' := [(2, .int 28), (0, .ref z0), (1, .int 6)]) hx hb dX13_forgets_138 hl (k := 0) rfl (by decide) (by decide) rfl (fun ls hl => ?_)
            refine lv_goto (tgt := 122) hx hb dX13_forgets_141 (by decide) ?_
            refine lv_iload_n hx hb dX13_forgets_122 rfl (lv_at hl 0 rfl) ?_
            refine lv_iconst (v := 4) hx hb dX13_forgets_123 (by decide) ?_
            refine lv_iload_n hx hb dX13_forgets_124 rfl (lv_at hl 2 rfl) ?_
            refine lv_imul hx hb dX13_forgets_125 ?_
            refine x_ci (y := 24) (by decide) ?_
            refine lv_iconst (v := 4) hx hb dX13_forgets_126 (by decide) ?_
            refine lv_iadd hx hb dX13_forgets_127 ?_
            refine x_ci (y := 28) (by decide) ?_
            refine lv_icmp_ge (tgt := 144) hx hb dX13_forgets_128 (by decide) (fun c_79 => ?_) (fun c_79 => ?_)
            · have hP9 := hP.sub (ws' := [(z0, .inr (13, xM g 0 0 0)), (g 1, .inl (cy 3, 8, .inl f_1)), (g 2, .inl (cy 1, 8, .inl f_2)), (g 4, .inl (cy 1, 8, .inl f_3)), (g 10, .inl (cy 3, 8, .inl f_8)), (g 11, .inl (cy 2, 8, .inr (.inl f_9)))]) [0, 1, 2, 3, 8, 9] rfl
              have hD9 := hD.sub (ws' := [(z0, .inr (13, xM g 0 0 0)), (g 1, .inl (cy 3, 8, .inl f_1)), (g 2, .inl (cy 1, 8, .inl f_2)), (g 4, .inl (cy 1, 8, .inl f_3)), (g 10, .inl (cy 3, 8, .inl f_8)), (g 11, .inl (cy 2, 8, .inr (.inl f_9)))]) [0, 1, 2, 3, 8, 9] (by decide) rfl
              refine W.widen (k := 0) (n := 0) (Nat.le_of_ble_eq_true rfl) (Nat.le_of_ble_eq_true rfl) ?_
              exact W.vret hx hb hr (fun t ht hW => ⟨⟨(f_1, f_2, f_3, f_8, f_9), rfl, trivial, by rw [ht]; exact hP9, hD9⟩, hS.F ht⟩) hS.2.2 dX13_forgets_144
            · exact absurd c_79 (by decide)
  · refine lv_iconst (v := 4) hx hb dX13_forgets_118 (by decide) ?_
    refine lv_iload_n hx hb dX13_forgets_119 rfl (lv_at hl 1 rfl) ?_
    refine lv_imul hx hb dX13_forgets_120 ?_
    refine x_ci (y := 28) (by decide) ?_
    refine lv_istore_n (lv' := [(2, .int 28), (0, .ref z0), (1, .int 7)]) hx hb dX13_forgets_121 rfl hl (by decide) rfl (fun ls hl => ?_)
    refine lv_iload_n hx hb dX13_forgets_122 rfl (lv_at hl 0 rfl) ?_
    refine lv_iconst (v := 4) hx hb dX13_forgets_123 (by decide) ?_
    refine lv_iload_n hx hb dX13_forgets_124 rfl (lv_at hl 2 rfl) ?_
    refine lv_imul hx hb dX13_forgets_125 ?_
    refine x_ci (y := 28) (by decide) ?_
    refine lv_iconst (v := 4) hx hb dX13_forgets_126 (by decide) ?_
    refine lv_iadd hx hb dX13_forgets_127 ?_
    refine x_ci (y := 32) (by decide) ?_
    refine lv_icmp_ge (tgt := 144) hx hb dX13_forgets_128 (by decide) (fun c_80 => ?_) (fun c_80 => ?_)
    · exact absurd c_80 (by decide)
    · refine lv_aload_n hx hb dX13_forgets_131 rfl (lv_at hl 1 rfl) ?_
      refine va_get (D := D) (ci := 13) (v := .ref (g 23)) (C := RX13) (T := TX13) (N := 68) hx hb hts iG13 hown hK.1 hP 0 rfl rfl 26 (by decide) (hts _ gw1148) (fun _ h9 => h9) rfl dX13_forgets_132 ?_
      refine lv_iload_n hx hb dX13_forgets_135 rfl (lv_at hl 0 rfl) ?_
      refine lv_iconst (v := 0) hx hb dX13_forgets_136 (by decide) ?_
      refine va_iast hx hb hK.1 hP hD hS 15 1 rfl rfl (show vp_in 28 32 by unfold vp_in; decide) dX13_forgets_137 (fun H locs hP hD hS => ?_)
      have hPD : ∃ f_81 : Nat → Int32, va_P D vwCl [(z0, .inr (13, xM g 0 0 0)), (g 1, .inl (cy 3, 8, .inl f_1)), (g 2, .inl (cy 1, 8, .inl f_2)), (g 4, .inl (cy 1, 8, .inl f_3)), (g 5, .inl (cy 1, 8, .inl f_4)), (g 6, .inl (cy 1, 8, .inl f_5)), (g 7, .inl (cy 1, 8, .inl f_6)), (g 8, .inl (cy 1, 8, .inl f_7)), (g 10, .inl (cy 3, 8, .inl f_8)), (g 11, .inl (cy 2, 8, .inr (.inl f_9))), (g 12, .inl (cy 2, 8, .inr (.inl f_10))), (g 13, .inl (cy 1, 8, .inl f_11)), (g 15, .inl (cy 2, 8, .inr (.inl f_12))), (g 16, .inl (cy 1, 8, .inl f_13)), (g 21, .inl (cy 1, 8, .inl f_14)), (g 23, .inl (cy 1, 32, .inl f_81)), (g 28, .inl (cy 1, 8, .inl f_15)), (g 29, .inl (cy 1, 8, .inl f_16))] H ∧ va_D A [(z0, .inr (13, xM g 0 0 0)), (g 1, .inl (cy 3, 8, .inl f_1)), (g 2, .inl (cy 1, 8, .inl f_2)), (g 4, .inl (cy 1, 8, .inl f_3)), (g 5, .inl (cy 1, 8, .inl f_4)), (g 6, .inl (cy 1, 8, .inl f_5)), (g 7, .inl (cy 1, 8, .inl f_6)), (g 8, .inl (cy 1, 8, .inl f_7)), (g 10, .inl (cy 3, 8, .inl f_8)), (g 11, .inl (cy 2, 8, .inr (.inl f_9))), (g 12, .inl (cy 2, 8, .inr (.inl f_10))), (g 13, .inl (cy 1, 8, .inl f_11)), (g 15, .inl (cy 2, 8, .inr (.inl f_12))), (g 16, .inl (cy 1, 8, .inl f_13)), (g 21, .inl (cy 1, 8, .inl f_14)), (g 23, .inl (cy 1, 32, .inl f_81)), (g 28, .inl (cy 1, 8, .inl f_15)), (g 29, .inl (cy 1, 8, .inl f_16))] := ⟨upd (fun _ => 0) (Int32.toNatClampNeg 28) 0, hP, hD⟩
      clear hP hD
      obtain ⟨f_81, hP, hD⟩ := hPD
      refine lv_iinc (v := 29) (lv' := [(2, .int 29), (0, .ref z0), (1, .int 7)]) hx hb dX13_forgets_138 hl (k := 0) rfl (by decide) (by decide) rfl (fun ls hl => ?_)
      refine lv_goto (tgt := 122) hx hb dX13_forgets_141 (by decide) ?_
      refine lv_iload_n hx hb dX13_forgets_122 rfl (lv_at hl 0 rfl) ?_
      refine lv_iconst (v := 4) hx hb dX13_forgets_123 (by decide) ?_
      refine lv_iload_n hx hb dX13_forgets_124 rfl (lv_at hl 2 rfl) ?_
      refine lv_imul hx hb dX13_forgets_125 ?_
      refine x_ci (y := 28) (by decide) ?_
      refine lv_iconst (v := 4) hx hb dX13_forgets_126 (by decide) ?_
      refine lv_iadd hx hb dX13_forgets_127 ?_
      refine x_ci (y := 32) (by decide) ?_
      refine lv_icmp_ge (tgt := 144) hx hb dX13_forgets_128 (by decide) (fun c_82 => ?_) (fun c_82 => ?_)
      · exact absurd c_82 (by decide)
      · refine lv_aload_n hx hb dX13_forgets_131 rfl (lv_at hl 1 rfl) ?_
        refine va_get (D := D) (ci := 13) (v := .ref (g 23)) (C := RX13) (T := TX13) (N := 68) hx hb hts iG13 hown hK.1 hP 0 rfl rfl 26 (by decide) (hts _ gw1148) (fun _ h9 => h9) rfl dX13_forgets_132 ?_
        refine lv_iload_n hx hb dX13_forgets_135 rfl (lv_at hl 0 rfl) ?_
        refine lv_iconst (v := 0) hx hb dX13_forgets_136 (by decide) ?_
        refine va_iast hx hb hK.1 hP hD hS 15 1 rfl rfl (show vp_in 29 32 by unfold vp_in; decide) dX13_forgets_137 (fun H locs hP hD hS => ?_)
        have hPD : ∃ f_83 : Nat → Int32, va_P D vwCl [(z0, .inr (13, xM g 0 0 0)), (g 1, .inl (cy 3, 8, .inl f_1)), (g 2, .inl (cy 1, 8, .inl f_2)), (g 4, .inl (cy 1, 8, .inl f_3)), (g 5, .inl (cy 1, 8, .inl f_4)), (g 6, .inl (cy 1, 8, .inl f_5)), (g 7, .inl (cy 1, 8, .inl f_6)), (g 8, .inl (cy 1, 8, .inl f_7)), (g 10, .inl (cy 3, 8, .inl f_8)), (g 11, .inl (cy 2, 8, .inr (.inl f_9))), (g 12, .inl (cy 2, 8, .inr (.inl f_10))), (g 13, .inl (cy 1, 8, .inl f_11)), (g 15, .inl (cy 2, 8, .inr (.inl f_12))), (g 16, .inl (cy 1, 8, .inl f_13)), (g 21, .inl (cy 1, 8, .inl f_14)), (g 23, .inl (cy 1, 32, .inl f_83)), (g 28, .inl (cy 1, 8, .inl f_15)), (g 29, .inl (cy 1, 8, .inl f_16))] H ∧ va_D A [(z0, .inr (13, xM g 0 0 0)), (g 1, .inl (cy 3, 8, .inl f_1)), (g 2, .inl (cy 1, 8, .inl f_2)), (g 4, .inl (cy 1, 8, .inl f_3)), (g 5, .inl (cy 1, 8, .inl f_4)), (g 6, .inl (cy 1, 8, .inl f_5)), (g 7, .inl (cy 1, 8, .inl f_6)), (g 8, .inl (cy 1, 8, .inl f_7)), (g 10, .inl (cy 3, 8, .inl f_8)), (g 11, .inl (cy 2, 8, .inr (.inl f_9))), (g 12, .inl (cy 2, 8, .inr (.inl f_10))), (g 13, .inl (cy 1, 8, .inl f_11)), (g 15, .inl (cy 2, 8, .inr (.inl f_12))), (g 16, .inl (cy 1, 8, .inl f_13)), (g 21, .inl (cy 1, 8, .inl f_14)), (g 23, .inl (cy 1, 32, .inl f_83)), (g 28, .inl (cy 1, 8, .inl f_15)), (g 29, .inl (cy 1, 8, .inl f_16))] := ⟨upd f_81 (Int32.toNatClampNeg 29) 0, hP, hD⟩
        clear hP hD
        obtain ⟨f_83, hP, hD⟩ := hPD
        refine lv_iinc (v := 30) (lv' := [(2, .int 30), (0, .ref z0), (1, .int 7)]) hx hb dX13_forgets_138 hl (k := 0) rfl (by decide) (by decide) rfl (fun ls hl => ?_)
        refine lv_goto (tgt := 122) hx hb dX13_forgets_141 (by decide) ?_
        refine lv_iload_n hx hb dX13_forgets_122 rfl (lv_at hl 0 rfl) ?_
        refine lv_iconst (v := 4) hx hb dX13_forgets_123 (by decide) ?_
        refine lv_iload_n hx hb dX13_forgets_124 rfl (lv_at hl 2 rfl) ?_
        refine lv_imul hx hb dX13_forgets_125 ?_
        refine x_ci (y := 28) (by decide) ?_
        refine lv_iconst (v := 4) hx hb dX13_forgets_126 (by decide) ?_
        refine lv_iadd hx hb dX13_forgets_127 ?_
        refine x_ci (y := 32) (by decide) ?_
        refine lv_icmp_ge (tgt := 144) hx hb dX13_forgets_128 (by decide) (fun c_84 => ?_) (fun c_84 => ?_)
        · exact absurd c_84 (by decide)
        · refine lv_aload_n hx hb dX13_forgets_131 rfl (lv_at hl 1 rfl) ?_
          refine va_get (D := D) (ci := 13) (v := .ref (g 23)) (C := RX13) (T := TX13) (N := 68) hx hb hts iG13 hown hK.1 hP 0 rfl rfl 26 (by decide) (hts _ gw1148) (fun _ h9 => h9) rfl dX13_forgets_132 ?_
          refine lv_iload_n hx hb dX13_forgets_135 rfl (lv_at hl 0 rfl) ?_
          refine lv_iconst (v := 0) hx hb dX13_forgets_136 (by decide) ?_
          refine va_iast hx hb hK.1 hP hD hS 15 1 rfl rfl (show vp_in 30 32 by unfold vp_in; decide) dX13_forgets_137 (fun H locs hP hD hS => ?_)
          have hPD : ∃ f_85 : Nat → Int32, va_P D vwCl [(z0, .inr (13, xM g 0 0 0)), (g 1, .inl (cy 3, 8, .inl f_1)), (g 2, .inl (cy 1, 8, .inl f_2)), (g 4, .inl (cy 1, 8, .inl f_3)), (g 5, .inl (cy 1, 8, .inl f_4)), (g 6, .inl (cy 1, 8, .inl f_5)), (g 7, .inl (cy 1, 8, .inl f_6)), (g 8, .inl (cy 1, 8, .inl f_7)), (g 10, .inl (cy 3, 8, .inl f_8)), (g 11, .inl (cy 2, 8, .inr (.inl f_9))), (g 12, .inl (cy 2, 8, .inr (.inl f_10))), (g 13, .inl (cy 1, 8, .inl f_11)), (g 15, .inl (cy 2, 8, .inr (.inl f_12))), (g 16, .inl (cy 1, 8, .inl f_13)), (g 21, .inl (cy 1, 8, .inl f_14)), (g 23, .inl (cy 1, 32, .inl f_85)), (g 28, .inl (cy 1, 8, .inl f_15)), (g 29, .inl (cy 1, 8, .inl f_16))] H ∧ va_D A [(z0, .inr (13, xM g 0 0 0)), (g 1, .inl (cy 3, 8, .inl f_1)), (g 2, .inl (cy 1, 8, .inl f_2)), (g 4, .inl (cy 1, 8, .inl f_3)), (g 5, .inl (cy 1, 8, .inl f_4)), (g 6, .inl (cy 1, 8, .inl f_5)), (g 7, .inl (cy 1, 8, .inl f_6)), (g 8, .inl (cy 1, 8, .inl f_7)), (g 10, .inl (cy 3, 8, .inl f_8)), (g 11, .inl (cy 2, 8, .inr (.inl f_9))), (g 12, .inl (cy 2, 8, .inr (.inl f_10))), (g 13, .inl (cy 1, 8, .inl f_11)), (g 15, .inl (cy 2, 8, .inr (.inl f_12))), (g 16, .inl (cy 1, 8, .inl f_13)), (g 21, .inl (cy 1, 8, .inl f_14)), (g 23, .inl (cy 1, 32, .inl f_85)), (g 28, .inl (cy 1, 8, .inl f_15)), (g 29, .inl (cy 1, 8, .inl f_16))] := ⟨upd f_83 (Int32.toNatClampNeg 30) 0, hP, hD⟩
          clear hP hD
          obtain ⟨f_85, hP, hD⟩ := hPD
          refine lv_iinc (v := 31) (lv' := [(2, .int 31), (0, .ref z0), (1, .int 7)]) hx hb dX13_forgets_138 hl (k := 0) rfl (by decide) (by decide) rfl (fun ls hl => ?_)
          refine lv_goto (tgt := 122) hx hb dX13_forgets_141 (by decide) ?_
          refine lv_iload_n hx hb dX13_forgets_122 rfl (lv_at hl 0 rfl) ?_
          refine lv_iconst (v := 4) hx hb dX13_forgets_123 (by decide) ?_
          refine lv_iload_n hx hb dX13_forgets_124 rfl (lv_at hl 2 rfl) ?_
          refine lv_imul hx hb dX13_forgets_125 ?_
          refine x_ci (y := 28) (by decide) ?_
          refine lv_iconst (v := 4) hx hb dX13_forgets_126 (by decide) ?_
          refine lv_iadd hx hb dX13_forgets_127 ?_
          refine x_ci (y := 32) (by decide) ?_
          refine lv_icmp_ge (tgt := 144) hx hb dX13_forgets_128 (by decide) (fun c_86 => ?_) (fun c_86 => ?_)
          · exact absurd c_86 (by decide)
          · refine lv_aload_n hx hb dX13_forgets_131 rfl (lv_at hl 1 rfl) ?_
            refine va_get (D := D) (ci := 13) (v := .ref (g 23)) (C := RX13) (T := TX13) (N := 68) hx hb hts iG13 hown hK.1 hP 0 rfl rfl 26 (by decide) (hts _ gw1148) (fun _ h9 => h9) rfl dX13_forgets_132 ?_
            refine lv_iload_n hx hb dX13_forgets_135 rfl (lv_at hl 0 rfl) ?_
            refine lv_iconst (v := 0) hx hb dX13_forgets_136 (by decide) ?_
            refine va_iast hx hb hK.1 hP hD hS 15 1 rfl rfl (show vp_in 31 32 by unfold vp_in; decide) dX13_forgets_137 (fun H locs hP hD hS => ?_)
            have hPD : ∃ f_87 : Nat → Int32, va_P D vwCl [(z0, .inr (13, xM g 0 0 0)), (g 1, .inl (cy 3, 8, .inl f_1)), (g 2, .inl (cy 1, 8, .inl f_2)), (g 4, .inl (cy 1, 8, .inl f_3)), (g 5, .inl (cy 1, 8, .inl f_4)), (g 6, .inl (cy 1, 8, .inl f_5)), (g 7, .inl (cy 1, 8, .inl f_6)), (g 8, .inl (cy 1, 8, .inl f_7)), (g 10, .inl (cy 3, 8, .inl f_8)), (g 11, .inl (cy 2, 8, .inr (.inl f_9))), (g 12, .inl (cy 2, 8, .inr (.inl f_10))), (g 13, .inl (cy 1, 8, .inl f_11)), (g 15, .inl (cy 2, 8, .inr (.inl f_12))), (g 16, .inl (cy 1, 8, .inl f_13)), (g 21, .inl (cy 1, 8, .inl f_14)), (g 23, .inl (cy 1, 32, .inl f_87)), (g 28, .inl (cy 1, 8, .inl f_15)), (g 29, .inl (cy 1, 8, .inl f_16))] H ∧ va_D A [(z0, .inr (13, xM g 0 0 0)), (g 1, .inl (cy 3, 8, .inl f_1)), (g 2, .inl (cy 1, 8, .inl f_2)), (g 4, .inl (cy 1, 8, .inl f_3)), (g 5, .inl (cy 1, 8, .inl f_4)), (g 6, .inl (cy 1, 8, .inl f_5)), (g 7, .inl (cy 1, 8, .inl f_6)), (g 8, .inl (cy 1, 8, .inl f_7)), (g 10, .inl (cy 3, 8, .inl f_8)), (g 11, .inl (cy 2, 8, .inr (.inl f_9))), (g 12, .inl (cy 2, 8, .inr (.inl f_10))), (g 13, .inl (cy 1, 8, .inl f_11)), (g 15, .inl (cy 2, 8, .inr (.inl f_12))), (g 16, .inl (cy 1, 8, .inl f_13)), (g 21, .inl (cy 1, 8, .inl f_14)), (g 23, .inl (cy 1, 32, .inl f_87)), (g 28, .inl (cy 1, 8, .inl f_15)), (g 29, .inl (cy 1, 8, .inl f_16))] := ⟨upd f_85 (Int32.toNatClampNeg 31) 0, hP, hD⟩
            clear hP hD
            obtain ⟨f_87, hP, hD⟩ := hPD
            refine lv_iinc (v := 32) (lv' := [(2, .int 32), (0, .ref z0), (1, .int 7)]) hx hb dX13_forgets_138 hl (k := 0) rfl (by decide) (by decide) rfl (fun ls hl => ?_)
            refine lv_goto (tgt := 122) hx hb dX13_forgets_141 (by decide) ?_
            refine lv_iload_n hx hb dX13_forgets_122 rfl (lv_at hl 0 rfl) ?_
            refine lv_iconst (v := 4) hx hb dX13_forgets_123 (by decide) ?_
            refine lv_iload_n hx hb dX13_forgets_124 rfl (lv_at hl 2 rfl) ?_
            refine lv_imul hx hb dX13_forgets_125 ?_
            refine x_ci (y := 28) (by decide) ?_
            refine lv_iconst (v := 4) hx hb dX13_forgets_126 (by decide) ?_
            refine lv_iadd hx hb dX13_forgets_127 ?_
            refine x_ci (y := 32) (by decide) ?_
            refine lv_icmp_ge (tgt := 144) hx hb dX13_forgets_128 (by decide) (fun c_88 => ?_) (fun c_88 => ?_)
            · have hP9 := hP.sub (ws' := [(z0, .inr (13, xM g 0 0 0)), (g 1, .inl (cy 3, 8, .inl f_1)), (g 2, .inl (cy 1, 8, .inl f_2)), (g 4, .inl (cy 1, 8, .inl f_3)), (g 10, .inl (cy 3, 8, .inl f_8)), (g 11, .inl (cy 2, 8, .inr (.inl f_9)))]) [0, 1, 2, 3, 8, 9] rfl
              have hD9 := hD.sub (ws' := [(z0, .inr (13, xM g 0 0 0)), (g 1, .inl (cy 3, 8, .inl f_1)), (g 2, .inl (cy 1, 8, .inl f_2)), (g 4, .inl (cy 1, 8, .inl f_3)), (g 10, .inl (cy 3, 8, .inl f_8)), (g 11, .inl (cy 2, 8, .inr (.inl f_9)))]) [0, 1, 2, 3, 8, 9] (by decide) rfl
              refine W.widen (k := 0) (n := 0) (Nat.le_of_ble_eq_true rfl) (Nat.le_of_ble_eq_true rfl) ?_
              exact W.vret hx hb hr (fun t ht hW => ⟨⟨(f_1, f_2, f_3, f_8, f_9), rfl, trivial, by rw [ht]; exact hP9, hD9⟩, hS.F ht⟩) hS.2.2 dX13_forgets_144
            · exact absurd c_88 (by decide)
set_option maxHeartbeats 4000000 in
set_option maxRecDepth 100000 in
theorem m_probes (l : Launch) (D : va_G) (cy : Nat → ClassId) (z0 : Nat) (g : Nat → Nat) (fi ft fh fs : Nat → Int32) (fd : Nat → Int64) (h : Int32) (h1 : ¬ h < 0) (h2 : ¬ 8 ≤ h) : xMv l D cy yX13_probes cX13_probes 2 ({ frames := 0, cells := 0, slots := 0, locals := 0 }) [.ref z0, .int h] [(z0, .inr (13, xM g 0 0 0)), (g 2, .inl (cy 1, 8, .inl fi)), (g 4, .inl (cy 1, 8, .inl ft)), (g 10, .inl (cy 3, 8, .inl fh)), (g 9, .inl (cy 1, 8, .inl fs)), (g 11, .inl (cy 2, 8, .inr (.inl fd)))] (S := Unit) (fun _ => True) (fun _ => []) := by
  intro sz
  refine Met.ofW (cc := cX13_probes) (maxL := 2) (ret := none) (by decide) rfl ?_
  intro p e s m args below meth c s₁ B hml hv
  obtain ⟨rfl, hsz, hP, hK, hD0⟩ := hv
  have hx := B.exec
  have hb := B.bytes
  have hr := B.returns
  have hts0 := atoms_spec (ws := xw yX13_probes cX13_probes 2 none) B.pre
  have hts : ∀ w ∈ xG, w.before _ s = true := fun w h => hts0 w (List.mem_cons_of_mem _ h)
  have hown : s.vm.findClass RX13 = some m.cls := findClass_of_methodNamed B.named
  have hlocks := B.notSynchronized
  subst hsz
  have hD := hD0.self (sz := s.heap.size)
  generalize hAe : va_A [(z0, .inr (13, xM g 0 0 0)), (g 2, .inl (cy 1, 8, .inl fi)), (g 4, .inl (cy 1, 8, .inl ft)), (g 10, .inl (cy 3, 8, .inl fh)), (g 9, .inl (cy 1, 8, .inl fs)), (g 11, .inl (cy 2, 8, .inr (.inl fd)))] s.heap.size = A at hD ⊢
  have hA : ∀ q : Nat, s.heap.size ≤ q → A q := fun q h => by rw [← hAe]; exact Or.inr h
  have hS : va_S A s.heap s.heap [] := va_S.rf
  have hl := lv_entry ([.ref z0, .int h]) (n := 2) (Nat.le_of_ble_eq_true rfl)
  rw [lg_entry_eq]
  generalize (lg_sl ([.ref z0, .int h]) ++ List.replicate (2 - (lg_sl ([.ref z0, .int h])).length) Slot.unset).toArray = ls at hl ⊢
  have hl : lv_has ls 2 [(0, .ref z0), (1, .int h)] := hl
  refine lv_aload_n hx hb dX13_probes_0 rfl (lv_at hl 0 rfl) ?_
  refine va_get (D := D) (ci := 13) (v := .ref (g 10)) (C := RX13) (T := TX13) (N := 68) hx hb hts iG13 hown hK.1 hP 0 rfl rfl 13 (by decide) (hts _ gw1135) (fun _ h9 => h9) rfl dX13_probes_1 ?_
  refine lv_iload_n hx hb dX13_probes_4 rfl (lv_at hl 1 rfl) ?_
  refine lv_iconst (v := 0) hx hb dX13_probes_5 (by decide) ?_
  refine va_zast hx hb hK.1 hP hD hS 3 3 rfl rfl (xin8 h1 h2) dX13_probes_6 (fun H locs hP hD hS => ?_)
  have hPD : ∃ f_1 : Nat → Int32, va_P D vwCl [(z0, .inr (13, xM g 0 0 0)), (g 2, .inl (cy 1, 8, .inl fi)), (g 4, .inl (cy 1, 8, .inl ft)), (g 10, .inl (cy 3, 8, .inl f_1)), (g 9, .inl (cy 1, 8, .inl fs)), (g 11, .inl (cy 2, 8, .inr (.inl fd)))] H ∧ va_D A [(z0, .inr (13, xM g 0 0 0)), (g 2, .inl (cy 1, 8, .inl fi)), (g 4, .inl (cy 1, 8, .inl ft)), (g 10, .inl (cy 3, 8, .inl f_1)), (g 9, .inl (cy 1, 8, .inl fs)), (g 11, .inl (cy 2, 8, .inr (.inl fd)))] := ⟨upd fh (Int32.toNatClampNeg h) (vp_nar .boolean 0), hP, hD⟩
  clear hP hD
  obtain ⟨f_1, hP, hD⟩ := hPD
  refine lv_aload_n hx hb dX13_probes_7 rfl (lv_at hl 0 rfl) ?_
  refine va_get (D := D) (ci := 13) (v := .ref (g 9)) (C := RX13) (T := TX13) (N := 68) hx hb hts iG13 hown hK.1 hP 0 rfl rfl 12 (by decide) (hts _ gw1134) (fun _ h9 => h9) rfl dX13_probes_8 ?_
  refine lv_iload_n hx hb dX13_probes_11 rfl (lv_at hl 1 rfl) ?_
  refine lv_iconst (v := 0) hx hb dX13_probes_12 (by decide) ?_
  refine va_iast hx hb hK.1 hP hD hS 4 1 rfl rfl (xin8 h1 h2) dX13_probes_13 (fun H locs hP hD hS => ?_)
  have hPD : ∃ f_2 : Nat → Int32, va_P D vwCl [(z0, .inr (13, xM g 0 0 0)), (g 2, .inl (cy 1, 8, .inl fi)), (g 4, .inl (cy 1, 8, .inl ft)), (g 10, .inl (cy 3, 8, .inl f_1)), (g 9, .inl (cy 1, 8, .inl f_2)), (g 11, .inl (cy 2, 8, .inr (.inl fd)))] H ∧ va_D A [(z0, .inr (13, xM g 0 0 0)), (g 2, .inl (cy 1, 8, .inl fi)), (g 4, .inl (cy 1, 8, .inl ft)), (g 10, .inl (cy 3, 8, .inl f_1)), (g 9, .inl (cy 1, 8, .inl f_2)), (g 11, .inl (cy 2, 8, .inr (.inl fd)))] := ⟨upd fs (Int32.toNatClampNeg h) 0, hP, hD⟩
  clear hP hD
  obtain ⟨f_2, hP, hD⟩ := hPD
  refine lv_aload_n hx hb dX13_probes_14 rfl (lv_at hl 0 rfl) ?_
  refine va_get (D := D) (ci := 13) (v := .ref (g 11)) (C := RX13) (T := TX13) (N := 68) hx hb hts iG13 hown hK.1 hP 0 rfl rfl 14 (by decide) (hts _ gw1136) (fun _ h9 => h9) rfl dX13_probes_15 ?_
  refine lv_iload_n hx hb dX13_probes_18 rfl (lv_at hl 1 rfl) ?_
  refine lv_aload_n hx hb dX13_probes_19 rfl (lv_at hl 0 rfl) ?_
  refine va_get (D := D) (ci := 13) (v := .long 0) (C := RX13) (T := TX13) (N := 68) hx hb hts iG13 hown hK.1 hP 0 rfl rfl 0 (by decide) (hts _ gw1122) (fun _ h9 => h9) rfl dX13_probes_20 ?_
  refine lv_ldc2 (v := 31) hx hb hown (hts _ gw1408) dX13_probes_23 ?_
  refine lv_aload_n hx hb dX13_probes_26 rfl (lv_at hl 0 rfl) ?_
  refine va_get (D := D) (ci := 13) (v := .ref (g 2)) (C := RX13) (T := TX13) (N := 68) hx hb hts iG13 hown hK.1 hP 0 rfl rfl 5 (by decide) (hts _ gw1127) (fun _ h9 => h9) rfl dX13_probes_27 ?_
  refine lv_iload_n hx hb dX13_probes_30 rfl (lv_at hl 1 rfl) ?_
  refine va_iald hx hb hK.1 hP 1 1 rfl rfl (xin8 h1 h2) dX13_probes_31 ?_
  refine lv_i2l (v := (fi (Int32.toNatClampNeg h)).toInt64) hx hb dX13_probes_32 rfl ?_
  refine lv_lmul hx hb dX13_probes_33 ?_
  refine lv_topl (fun z_3 ez_3 => ?_)
  refine lv_ldc2 (v := 17) hx hb hown (hts _ gw1409) dX13_probes_34 ?_
  refine lv_aload_n hx hb dX13_probes_37 rfl (lv_at hl 0 rfl) ?_
  refine va_get (D := D) (ci := 13) (v := .ref (g 4)) (C := RX13) (T := TX13) (N := 68) hx hb hts iG13 hown hK.1 hP 0 rfl rfl 7 (by decide) (hts _ gw1129) (fun _ h9 => h9) rfl dX13_probes_38 ?_
  refine lv_iload_n hx hb dX13_probes_41 rfl (lv_at hl 1 rfl) ?_
  refine va_iald hx hb hK.1 hP 2 1 rfl rfl (xin8 h1 h2) dX13_probes_42 ?_
  refine lv_i2l (v := (ft (Int32.toNatClampNeg h)).toInt64) hx hb dX13_probes_43 rfl ?_
  refine lv_lmul hx hb dX13_probes_44 ?_
  refine lv_topl (fun z_4 ez_4 => ?_)
  refine lv_ladd hx hb dX13_probes_45 ?_
  refine lv_topl (fun z_5 ez_5 => ?_)
  refine lv_ldc2 (v := 200) hx hb hown (hts _ gw1410) dX13_probes_46 ?_
  refine lv_lrem hx hb dX13_probes_49 (by decide) ?_
  refine lv_topl (fun z_6 ez_6 => ?_)
  refine lv_ladd hx hb dX13_probes_50 ?_
  refine lv_topl (fun z_7 ez_7 => ?_)
  refine va_last hx hb hK.1 hP hD hS 5 2 rfl rfl (xin8 h1 h2) dX13_probes_51 (fun H locs hP hD hS => ?_)
  have hPD : ∃ f_8 : Nat → Int64, va_P D vwCl [(z0, .inr (13, xM g 0 0 0)), (g 2, .inl (cy 1, 8, .inl fi)), (g 4, .inl (cy 1, 8, .inl ft)), (g 10, .inl (cy 3, 8, .inl f_1)), (g 9, .inl (cy 1, 8, .inl f_2)), (g 11, .inl (cy 2, 8, .inr (.inl f_8)))] H ∧ va_D A [(z0, .inr (13, xM g 0 0 0)), (g 2, .inl (cy 1, 8, .inl fi)), (g 4, .inl (cy 1, 8, .inl ft)), (g 10, .inl (cy 3, 8, .inl f_1)), (g 9, .inl (cy 1, 8, .inl f_2)), (g 11, .inl (cy 2, 8, .inr (.inl f_8)))] := ⟨vp_updL fd (Int32.toNatClampNeg h) z_7, hP, hD⟩
  clear hP hD
  obtain ⟨f_8, hP, hD⟩ := hPD
  have hP9 := hP.sub (ws' := []) [] rfl
  have hD9 := hD.sub (ws' := []) [] (by decide) rfl
  refine W.widen (k := 0) (n := 0) (Nat.le_of_ble_eq_true rfl) (Nat.le_of_ble_eq_true rfl) ?_
  exact W.vret hx hb hr (fun t ht hW => ⟨⟨(), rfl, trivial, by rw [ht]; exact hP9, hD9⟩, hS.F ht⟩) hS.2.2 dX13_probes_52
set_option maxHeartbeats 4000000 in
set_option maxRecDepth 100000 in
theorem m_on (l : Launch) (D : va_G) (cy : Nat → ClassId) (z0 : Nat) (g : Nat → Nat) (h a : Int32) : xMi l D cy yX13_on cX13_on 4 (some .boolean) ({ frames := 1, cells := 0, slots := 0, locals := 22 }) [.ref z0, .int h, .int a] [(z0, .inr (13, xM g 0 0 0)), (g 1, .inl (cy 3, 8, .inl (fun _ => 0))), (g 2, .inl (cy 1, 8, .inl (fun _ => 0))), (g 4, .inl (cy 1, 8, .inl (fun _ => 0))), (g 5, .inl (cy 1, 8, .inl (fun _ => 0))), (g 6, .inl (cy 1, 8, .inl (fun _ => 0))), (g 7, .inl (cy 1, 8, .inl (fun _ => 0))), (g 8, .inl (cy 1, 8, .inl (fun _ => 0))), (g 9, .inl (cy 1, 8, .inl (fun _ => 0))), (g 10, .inl (cy 3, 8, .inl (fun _ => 0))), (g 11, .inl (cy 2, 8, .inr (.inl (fun _ => 0)))), (g 12, .inl (cy 2, 8, .inr (.inl (fun _ => 0)))), (g 13, .inl (cy 1, 8, .inl (fun _ => 0))), (g 15, .inl (cy 2, 8, .inr (.inl (fun _ => 0)))), (g 16, .inl (cy 1, 8, .inl (fun _ => 0))), (g 21, .inl (cy 1, 8, .inl (fun _ => 0))), (g 23, .inl (cy 1, 32, .inl (fun _ => 0))), (g 28, .inl (cy 1, 8, .inl (fun _ => 0))), (g 29, .inl (cy 1, 8, .inl (fun _ => 0)))] (S := Unit) (fun r _ => r = xon h a) (fun _ => []) := by
  intro sz
  refine Met.ofW (cc := cX13_on) (maxL := 4) (ret := (some .boolean)) (by decide) rfl ?_
  intro p e s m args below meth c s₁ B hml hv
  obtain ⟨rfl, hsz, hP, hK, hD0⟩ := hv
  have hx := B.exec
  have hb := B.bytes
  have hr := B.returns
  have hts0 := atoms_spec (ws := xw yX13_on cX13_on 4 (some .boolean)) B.pre
  have hts : ∀ w ∈ xG, w.before _ s = true := fun w h => hts0 w (List.mem_cons_of_mem _ h)
  have hown : s.vm.findClass RX13 = some m.cls := findClass_of_methodNamed B.named
  have hlocks := B.notSynchronized
  subst hsz
  have hD := hD0.self (sz := s.heap.size)
  generalize hAe : va_A [(z0, .inr (13, xM g 0 0 0)), (g 1, .inl (cy 3, 8, .inl (fun _ => 0))), (g 2, .inl (cy 1, 8, .inl (fun _ => 0))), (g 4, .inl (cy 1, 8, .inl (fun _ => 0))), (g 5, .inl (cy 1, 8, .inl (fun _ => 0))), (g 6, .inl (cy 1, 8, .inl (fun _ => 0))), (g 7, .inl (cy 1, 8, .inl (fun _ => 0))), (g 8, .inl (cy 1, 8, .inl (fun _ => 0))), (g 9, .inl (cy 1, 8, .inl (fun _ => 0))), (g 10, .inl (cy 3, 8, .inl (fun _ => 0))), (g 11, .inl (cy 2, 8, .inr (.inl (fun _ => 0)))), (g 12, .inl (cy 2, 8, .inr (.inl (fun _ => 0)))), (g 13, .inl (cy 1, 8, .inl (fun _ => 0))), (g 15, .inl (cy 2, 8, .inr (.inl (fun _ => 0)))), (g 16, .inl (cy 1, 8, .inl (fun _ => 0))), (g 21, .inl (cy 1, 8, .inl (fun _ => 0))), (g 23, .inl (cy 1, 32, .inl (fun _ => 0))), (g 28, .inl (cy 1, 8, .inl (fun _ => 0))), (g 29, .inl (cy 1, 8, .inl (fun _ => 0)))] s.heap.size = A at hD ⊢
  have hA : ∀ q : Nat, s.heap.size ≤ q → A q := fun q h => by rw [← hAe]; exact Or.inr h
  have hS : va_S A s.heap s.heap [] := va_S.rf
  have hl := lv_entry ([.ref z0, .int h, .int a]) (n := 4) (Nat.le_of_ble_eq_true rfl)
  rw [lg_entry_eq]
  generalize (lg_sl ([.ref z0, .int h, .int a]) ++ List.replicate (4 - (lg_sl ([.ref z0, .int h, .int a])).length) Slot.unset).toArray = ls at hl ⊢
  have hl : lv_has ls 4 [(0, .ref z0), (1, .int h), (2, .int a)] := hl
  refine lv_aload_n hx hb dX13_on_0 rfl (lv_at hl 0 rfl) ?_
  refine lv_iconst (v := 0) hx hb dX13_on_1 (by decide) ?_
  refine va_put (D := D) (ci := 13) (v := .int 0) (ty := .int) (C := RX13) (T := TX13) (N := 68) hx hb hts iG13 tyX13 tyX13_ok nmX13 hown hK.1 hP hD hS 0 rfl rfl 3 (by decide) (hts _ gw1125) (fun _ h9 => h9) rfl (by decide +kernel) rfl rfl (Nat.le_of_ble_eq_true rfl) dX13_on_2 (fun H locs hP hD hS => ?_)
  have hP : va_P D vwCl [(z0, .inr (13, xM g 0 0 0)), (g 1, .inl (cy 3, 8, .inl (fun _ => 0))), (g 2, .inl (cy 1, 8, .inl (fun _ => 0))), (g 4, .inl (cy 1, 8, .inl (fun _ => 0))), (g 5, .inl (cy 1, 8, .inl (fun _ => 0))), (g 6, .inl (cy 1, 8, .inl (fun _ => 0))), (g 7, .inl (cy 1, 8, .inl (fun _ => 0))), (g 8, .inl (cy 1, 8, .inl (fun _ => 0))), (g 9, .inl (cy 1, 8, .inl (fun _ => 0))), (g 10, .inl (cy 3, 8, .inl (fun _ => 0))), (g 11, .inl (cy 2, 8, .inr (.inl (fun _ => 0)))), (g 12, .inl (cy 2, 8, .inr (.inl (fun _ => 0)))), (g 13, .inl (cy 1, 8, .inl (fun _ => 0))), (g 15, .inl (cy 2, 8, .inr (.inl (fun _ => 0)))), (g 16, .inl (cy 1, 8, .inl (fun _ => 0))), (g 21, .inl (cy 1, 8, .inl (fun _ => 0))), (g 23, .inl (cy 1, 32, .inl (fun _ => 0))), (g 28, .inl (cy 1, 8, .inl (fun _ => 0))), (g 29, .inl (cy 1, 8, .inl (fun _ => 0)))] H := hP
  have hD : va_D A [(z0, .inr (13, xM g 0 0 0)), (g 1, .inl (cy 3, 8, .inl (fun _ => 0))), (g 2, .inl (cy 1, 8, .inl (fun _ => 0))), (g 4, .inl (cy 1, 8, .inl (fun _ => 0))), (g 5, .inl (cy 1, 8, .inl (fun _ => 0))), (g 6, .inl (cy 1, 8, .inl (fun _ => 0))), (g 7, .inl (cy 1, 8, .inl (fun _ => 0))), (g 8, .inl (cy 1, 8, .inl (fun _ => 0))), (g 9, .inl (cy 1, 8, .inl (fun _ => 0))), (g 10, .inl (cy 3, 8, .inl (fun _ => 0))), (g 11, .inl (cy 2, 8, .inr (.inl (fun _ => 0)))), (g 12, .inl (cy 2, 8, .inr (.inl (fun _ => 0)))), (g 13, .inl (cy 1, 8, .inl (fun _ => 0))), (g 15, .inl (cy 2, 8, .inr (.inl (fun _ => 0)))), (g 16, .inl (cy 1, 8, .inl (fun _ => 0))), (g 21, .inl (cy 1, 8, .inl (fun _ => 0))), (g 23, .inl (cy 1, 32, .inl (fun _ => 0))), (g 28, .inl (cy 1, 8, .inl (fun _ => 0))), (g 29, .inl (cy 1, 8, .inl (fun _ => 0)))] := hD
  refine lv_aload_n hx hb dX13_on_5 rfl (lv_at hl 0 rfl) ?_
  refine lv_iload_n hx hb dX13_on_6 rfl (lv_at hl 1 rfl) ?_
  refine x_calli [(z0, .inr (13, xM g 0 0 0))] [(g 1, .inl (cy 3, 8, .inl (fun _ => 0))), (g 2, .inl (cy 1, 8, .inl (fun _ => 0))), (g 4, .inl (cy 1, 8, .inl (fun _ => 0))), (g 5, .inl (cy 1, 8, .inl (fun _ => 0))), (g 6, .inl (cy 1, 8, .inl (fun _ => 0))), (g 7, .inl (cy 1, 8, .inl (fun _ => 0))), (g 8, .inl (cy 1, 8, .inl (fun _ => 0))), (g 9, .inl (cy 1, 8, .inl (fun _ => 0))), (g 10, .inl (cy 3, 8, .inl (fun _ => 0))), (g 11, .inl (cy 2, 8, .inr (.inl (fun _ => 0)))), (g 12, .inl (cy 2, 8, .inr (.inl (fun _ => 0)))), (g 13, .inl (cy 1, 8, .inl (fun _ => 0))), (g 15, .inl (cy 2, 8, .inr (.inl (fun _ => 0)))), (g 16, .inl (cy 1, 8, .inl (fun _ => 0))), (g 21, .inl (cy 1, 8, .inl (fun _ => 0))), (g 23, .inl (cy 1, 32, .inl (fun _ => 0))), (g 28, .inl (cy 1, 8, .inl (fun _ => 0))), (g 29, .inl (cy 1, 8, .inl (fun _ => 0)))] (va_runV (As := [.int h]) (rest := []) ⟨hx, hb, hml, hown, hts⟩ (m_isHost l D cy z0 g h H.size) (cwV 1 hts (xV gw1519 gw1521 gs78 gw14 gw1522) rfl rfl rfl (by decide +kernel) ⟨(Nat.le_of_ble_eq_true rfl), (Nat.le_of_ble_eq_true rfl)⟩) (xpreV hK (hP.sub (ws' := [(z0, .inr (13, xM g 0 0 0))]) [0] rfl) (hD.sub (ws' := [(z0, .inr (13, xM g 0 0 0))]) [0] (by decide) rfl) 0 13 rfl rfl rfl) rfl rfl hl.1 rfl (lv_room (Nat.le_of_ble_eq_true rfl)) dX13_on_7 ⟨(Nat.le_of_ble_eq_true rfl), (Nat.le_of_ble_eq_true rfl)⟩) hP hD hS hA [0] [1, 2, 3, 4, 5, 6, 7, 8, 9, 10, 11, 12, 13, 14, 15, 16, 17, 18] rfl rfl (by decide) (by decide) (fun r_u_1 u_1 H locs hw_u_1 hP hD hS => ?_)
  have hP : va_P D vwCl [(g 1, .inl (cy 3, 8, .inl (fun _ => 0))), (g 2, .inl (cy 1, 8, .inl (fun _ => 0))), (g 4, .inl (cy 1, 8, .inl (fun _ => 0))), (g 5, .inl (cy 1, 8, .inl (fun _ => 0))), (g 6, .inl (cy 1, 8, .inl (fun _ => 0))), (g 7, .inl (cy 1, 8, .inl (fun _ => 0))), (g 8, .inl (cy 1, 8, .inl (fun _ => 0))), (g 9, .inl (cy 1, 8, .inl (fun _ => 0))), (g 10, .inl (cy 3, 8, .inl (fun _ => 0))), (g 11, .inl (cy 2, 8, .inr (.inl (fun _ => 0)))), (g 12, .inl (cy 2, 8, .inr (.inl (fun _ => 0)))), (g 13, .inl (cy 1, 8, .inl (fun _ => 0))), (g 15, .inl (cy 2, 8, .inr (.inl (fun _ => 0)))), (g 16, .inl (cy 1, 8, .inl (fun _ => 0))), (g 21, .inl (cy 1, 8, .inl (fun _ => 0))), (g 23, .inl (cy 1, 32, .inl (fun _ => 0))), (g 28, .inl (cy 1, 8, .inl (fun _ => 0))), (g 29, .inl (cy 1, 8, .inl (fun _ => 0))), (z0, .inr (13, xM g 0 0 0))] H := hP
  have hD : va_D A [(g 1, .inl (cy 3, 8, .inl (fun _ => 0))), (g 2, .inl (cy 1, 8, .inl (fun _ => 0))), (g 4, .inl (cy 1, 8, .inl (fun _ => 0))), (g 5, .inl (cy 1, 8, .inl (fun _ => 0))), (g 6, .inl (cy 1, 8, .inl (fun _ => 0))), (g 7, .inl (cy 1, 8, .inl (fun _ => 0))), (g 8, .inl (cy 1, 8, .inl (fun _ => 0))), (g 9, .inl (cy 1, 8, .inl (fun _ => 0))), (g 10, .inl (cy 3, 8, .inl (fun _ => 0))), (g 11, .inl (cy 2, 8, .inr (.inl (fun _ => 0)))), (g 12, .inl (cy 2, 8, .inr (.inl (fun _ => 0)))), (g 13, .inl (cy 1, 8, .inl (fun _ => 0))), (g 15, .inl (cy 2, 8, .inr (.inl (fun _ => 0)))), (g 16, .inl (cy 1, 8, .inl (fun _ => 0))), (g 21, .inl (cy 1, 8, .inl (fun _ => 0))), (g 23, .inl (cy 1, 32, .inl (fun _ => 0))), (g 28, .inl (cy 1, 8, .inl (fun _ => 0))), (g 29, .inl (cy 1, 8, .inl (fun _ => 0))), (z0, .inr (13, xM g 0 0 0))] := hD
  refine W.widen (k := 0) (n := 0) (Nat.le_of_ble_eq_true rfl) (Nat.le_of_ble_eq_true rfl) ?_
  rcases hw_u_1 with ⟨rfl, hb_u_1⟩ | ⟨rfl, h1_u_1, h2_u_1⟩
  · refine lv_if_eq (tgt := 34) hx hb dX13_on_10 (by decide) (fun c_2 => ?_) (fun c_2 => ?_)
    · refine lv_iconst (v := 0) hx hb dX13_on_34 (by decide) ?_
      have hP9 := hP.sub (ws' := []) [] rfl
      have hD9 := hD.sub (ws' := []) [] (by decide) rfl
      refine W.widen (k := 0) (n := 0) (Nat.le_of_ble_eq_true rfl) (Nat.le_of_ble_eq_true rfl) ?_
      exact W.zret (v := 0) hx hb hr (by decide) (fun t ht hW => ⟨⟨0, (), rfl, (show _ = xon h a by rcases hb_u_1 with q | q <;> (unfold xon; simp [q])), by rw [ht]; exact hP9, hD9⟩, hS.F ht⟩) hS.2.2 dX13_on_35
    · exact absurd c_2 (by decide)
  · refine lv_if_eq (tgt := 34) hx hb dX13_on_10 (by decide) (fun c_3 => ?_) (fun c_3 => ?_)
    · exact absurd c_3 (by decide)
    · refine lv_aload_n hx hb dX13_on_13 rfl (lv_at hl 0 rfl) ?_
      refine va_get (D := D) (ci := 13) (v := .ref (g 1)) (C := RX13) (T := TX13) (N := 68) hx hb hts iG13 hown hK.1 hP 18 rfl rfl 4 (by decide) (hts _ gw1126) (fun _ h9 => h9) rfl dX13_on_14 ?_
      refine lv_iload_n hx hb dX13_on_17 rfl (lv_at hl 1 rfl) ?_
      refine va_zald hx hb hK.1 hP 0 3 rfl rfl (xin8 h1_u_1 h2_u_1) dX13_on_18 ?_
      refine lv_if_ne (tgt := 34) hx hb dX13_on_19 (by decide) (fun c_4 => ?_) (fun c_4 => ?_)
      · exact absurd c_4 (by decide)
      · refine lv_iload_n hx hb dX13_on_22 rfl (lv_at hl 2 rfl) ?_
        refine lv_iconst (v := 1) hx hb dX13_on_23 (by decide) ?_
        refine lv_icmp_lt (tgt := 34) hx hb dX13_on_24 (by decide) (fun c_5 => ?_) (fun c_5 => ?_)
        · refine lv_iconst (v := 0) hx hb dX13_on_34 (by decide) ?_
          have hP9 := hP.sub (ws' := []) [] rfl
          have hD9 := hD.sub (ws' := []) [] (by decide) rfl
          refine W.widen (k := 0) (n := 0) (Nat.le_of_ble_eq_true rfl) (Nat.le_of_ble_eq_true rfl) ?_
          exact W.zret (v := 0) hx hb hr (by decide) (fun t ht hW => ⟨⟨0, (), rfl, (show _ = xon h a by unfold xon; simp [h1_u_1, h2_u_1, c_5]), by rw [ht]; exact hP9, hD9⟩, hS.F ht⟩) hS.2.2 dX13_on_35
        · refine lv_iload_n hx hb dX13_on_27 rfl (lv_at hl 2 rfl) ?_
          refine lv_ldcw (v := 65535) hx hb hown (hts _ gw1523) dX13_on_28 ?_
          refine lv_icmp_le (tgt := 36) hx hb dX13_on_31 (by decide) (fun c_6 => ?_) (fun c_6 => ?_)
          · refine lv_iconst (v := 0) hx hb dX13_on_36 (by decide) ?_
            refine lv_istore_n (lv' := [(3, .int 0), (0, .ref z0), (1, .int h), (2, .int a)]) hx hb dX13_on_37 rfl hl (by decide) rfl (fun ls hl => ?_)
            refine lv_iload_n hx hb dX13_on_38 rfl (lv_at hl 0 rfl) ?_
            refine lv_bipush (v := 8) hx hb dX13_on_39 (by decide) ?_
            refine lv_icmp_ge (tgt := 71) hx hb dX13_on_41 (by decide) (fun c_7 => ?_) (fun c_7 => ?_)
            · exact absurd c_7 (by decide)
            · refine lv_aload_n hx hb dX13_on_44 rfl (lv_at hl 1 rfl) ?_
              refine va_get (D := D) (ci := 13) (v := .ref (g 1)) (C := RX13) (T := TX13) (N := 68) hx hb hts iG13 hown hK.1 hP 18 rfl rfl 4 (by decide) (hts _ gw1126) (fun _ h9 => h9) rfl dX13_on_45 ?_
              refine lv_iload_n hx hb dX13_on_48 rfl (lv_at hl 0 rfl) ?_
              refine va_zald hx hb hK.1 hP 0 3 rfl rfl (show vp_in 0 8 by unfold vp_in; decide) dX13_on_49 ?_
              refine lv_if_eq (tgt := 65) hx hb dX13_on_50 (by decide) (fun c_8 => ?_) (fun c_8 => ?_)
              · refine lv_iinc (v := 1) (lv' := [(3, .int 1), (0, .ref z0), (1, .int h), (2, .int a)]) hx hb dX13_on_65 hl (k := 0) rfl (by decide) (by decide) rfl (fun ls hl => ?_)
                refine lv_goto (tgt := 38) hx hb dX13_on_68 (by decide) ?_
                refine lv_iload_n hx hb dX13_on_38 rfl (lv_at hl 0 rfl) ?_
                refine lv_bipush (v := 8) hx hb dX13_on_39 (by decide) ?_
                refine lv_icmp_ge (tgt := 71) hx hb dX13_on_41 (by decide) (fun c_9 => ?_) (fun c_9 => ?_)
                · exact absurd c_9 (by decide)
                · refine lv_aload_n hx hb dX13_on_44 rfl (lv_at hl 1 rfl) ?_
                  refine va_get (D := D) (ci := 13) (v := .ref (g 1)) (C := RX13) (T := TX13) (N := 68) hx hb hts iG13 hown hK.1 hP 18 rfl rfl 4 (by decide) (hts _ gw1126) (fun _ h9 => h9) rfl dX13_on_45 ?_
                  refine lv_iload_n hx hb dX13_on_48 rfl (lv_at hl 0 rfl) ?_
                  refine va_zald hx hb hK.1 hP 0 3 rfl rfl (show vp_in 1 8 by unfold vp_in; decide) dX13_on_49 ?_
                  refine lv_if_eq (tgt := 65) hx hb dX13_on_50 (by decide) (fun c_10 => ?_) (fun c_10 => ?_)
                  · refine lv_iinc (v := 2) (lv' := [(3, .int 2), (0, .ref z0), (1, .int h), (2, .int a)]) hx hb dX13_on_65 hl (k := 0) rfl (by decide) (by decide) rfl (fun ls hl => ?_)
                    refine lv_goto (tgt := 38) hx hb dX13_on_68 (by decide) ?_
                    refine lv_iload_n hx hb dX13_on_38 rfl (lv_at hl 0 rfl) ?_
                    refine lv_bipush (v := 8) hx hb dX13_on_39 (by decide) ?_
                    refine lv_icmp_ge (tgt := 71) hx hb dX13_on_41 (by decide) (fun c_11 => ?_) (fun c_11 => ?_)
                    · exact absurd c_11 (by decide)
                    · refine lv_aload_n hx hb dX13_on_44 rfl (lv_at hl 1 rfl) ?_
                      refine va_get (D := D) (ci := 13) (v := .ref (g 1)) (C := RX13) (T := TX13) (N := 68) hx hb hts iG13 hown hK.1 hP 18 rfl rfl 4 (by decide) (hts _ gw1126) (fun _ h9 => h9) rfl dX13_on_45 ?_
                      refine lv_iload_n hx hb dX13_on_48 rfl (lv_at hl 0 rfl) ?_
                      refine va_zald hx hb hK.1 hP 0 3 rfl rfl (show vp_in 2 8 by unfold vp_in; decide) dX13_on_49 ?_
                      refine lv_if_eq (tgt := 65) hx hb dX13_on_50 (by decide) (fun c_12 => ?_) (fun c_12 => ?_)
                      · refine lv_iinc (v := 3) (lv' := [(3, .int 3), (0, .ref z0), (1, .int h), (2, .int a)]) hx hb dX13_on_65 hl (k := 0) rfl (by decide) (by decide) rfl (fun ls hl => ?_)
                        refine lv_goto (tgt := 38) hx hb dX13_on_68 (by decide) ?_
                        refine lv_iload_n hx hb dX13_on_38 rfl (lv_at hl 0 rfl) ?_
                        refine lv_bipush (v := 8) hx hb dX13_on_39 (by decide) ?_
                        refine lv_icmp_ge (tgt := 71) hx hb dX13_on_41 (by decide) (fun c_13 => ?_) (fun c_13 => ?_)
                        · exact absurd c_13 (by decide)
                        · refine lv_aload_n hx hb dX13_on_44 rfl (lv_at hl 1 rfl) ?_
                          refine va_get (D := D) (ci := 13) (v := .ref (g 1)) (C := RX13) (T := TX13) (N := 68) hx hb hts iG13 hown hK.1 hP 18 rfl rfl 4 (by decide) (hts _ gw1126) (fun _ h9 => h9) rfl dX13_on_45 ?_
                          refine lv_iload_n hx hb dX13_on_48 rfl (lv_at hl 0 rfl) ?_
                          refine va_zald hx hb hK.1 hP 0 3 rfl rfl (show vp_in 3 8 by unfold vp_in; decide) dX13_on_49 ?_
                          refine lv_if_eq (tgt := 65) hx hb dX13_on_50 (by decide) (fun c_14 => ?_) (fun c_14 => ?_)
                          · refine lv_iinc (v := 4) (lv' := [(3, .int 4), (0, .ref z0), (1, .int h), (2, .int a)]) hx hb dX13_on_65 hl (k := 0) rfl (by decide) (by decide) rfl (fun ls hl => ?_)
                            refine lv_goto (tgt := 38) hx hb dX13_on_68 (by decide) ?_
                            refine lv_iload_n hx hb dX13_on_38 rfl (lv_at hl 0 rfl) ?_
                            refine lv_bipush (v := 8) hx hb dX13_on_39 (by decide) ?_
                            refine lv_icmp_ge (tgt := 71) hx hb dX13_on_41 (by decide) (fun c_15 => ?_) (fun c_15 => ?_)
                            · exact absurd c_15 (by decide)
                            · refine lv_aload_n hx hb dX13_on_44 rfl (lv_at hl 1 rfl) ?_
                              refine va_get (D := D) (ci := 13) (v := .ref (g 1)) (C := RX13) (T := TX13) (N := 68) hx hb hts iG13 hown hK.1 hP 18 rfl rfl 4 (by decide) (hts _ gw1126) (fun _ h9 => h9) rfl dX13_on_45 ?_
                              refine lv_iload_n hx hb dX13_on_48 rfl (lv_at hl 0 rfl) ?_
                              refine va_zald hx hb hK.1 hP 0 3 rfl rfl (show vp_in 4 8 by unfold vp_in; decide) dX13_on_49 ?_
                              refine lv_if_eq (tgt := 65) hx hb dX13_on_50 (by decide) (fun c_16 => ?_) (fun c_16 => ?_)
                              · refine lv_iinc (v := 5) (lv' := [(3, .int 5), (0, .ref z0), (1, .int h), (2, .int a)]) hx hb dX13_on_65 hl (k := 0) rfl (by decide) (by decide) rfl (fun ls hl => ?_)
                                refine lv_goto (tgt := 38) hx hb dX13_on_68 (by decide) ?_
                                refine lv_iload_n hx hb dX13_on_38 rfl (lv_at hl 0 rfl) ?_
                                refine lv_bipush (v := 8) hx hb dX13_on_39 (by decide) ?_
                                refine lv_icmp_ge (tgt := 71) hx hb dX13_on_41 (by decide) (fun c_17 => ?_) (fun c_17 => ?_)
                                · exact absurd c_17 (by decide)
                                · refine lv_aload_n hx hb dX13_on_44 rfl (lv_at hl 1 rfl) ?_
                                  refine va_get (D := D) (ci := 13) (v := .ref (g 1)) (C := RX13) (T := TX13) (N := 68) hx hb hts iG13 hown hK.1 hP 18 rfl rfl 4 (by decide) (hts _ gw1126) (fun _ h9 => h9) rfl dX13_on_45 ?_
                                  refine lv_iload_n hx hb dX13_on_48 rfl (lv_at hl 0 rfl) ?_
                                  refine va_zald hx hb hK.1 hP 0 3 rfl rfl (show vp_in 5 8 by unfold vp_in; decide) dX13_on_49 ?_
                                  refine lv_if_eq (tgt := 65) hx hb dX13_on_50 (by decide) (fun c_18 => ?_) (fun c_18 => ?_)
                                  · refine lv_iinc (v := 6) (lv' := [(3, .int 6), (0, .ref z0), (1, .int h), (2, .int a)]) hx hb dX13_on_65 hl (k := 0) rfl (by decide) (by decide) rfl (fun ls hl => ?_)
                                    refine lv_goto (tgt := 38) hx hb dX13_on_68 (by decide) ?_
                                    refine lv_iload_n hx hb dX13_on_38 rfl (lv_at hl 0 rfl) ?_
                                    refine lv_bipush (v := 8) hx hb dX13_on_39 (by decide) ?_
                                    refine lv_icmp_ge (tgt := 71) hx hb dX13_on_41 (by decide) (fun c_19 => ?_) (fun c_19 => ?_)
                                    · exact absurd c_19 (by decide)
                                    · refine lv_aload_n hx hb dX13_on_44 rfl (lv_at hl 1 rfl) ?_
                                      refine va_get (D := D) (ci := 13) (v := .ref (g 1)) (C := RX13) (T := TX13) (N := 68) hx hb hts iG13 hown hK.1 hP 18 rfl rfl 4 (by decide) (hts _ gw1126) (fun _ h9 => h9) rfl dX13_on_45 ?_
                                      refine lv_iload_n hx hb dX13_on_48 rfl (lv_at hl 0 rfl) ?_
                                      refine va_zald hx hb hK.1 hP 0 3 rfl rfl (show vp_in 6 8 by unfold vp_in; decide) dX13_on_49 ?_
                                      refine lv_if_eq (tgt := 65) hx hb dX13_on_50 (by decide) (fun c_20 => ?_) (fun c_20 => ?_)
                                      · refine lv_iinc (v := 7) (lv' := [(3, .int 7), (0, .ref z0), (1, .int h), (2, .int a)]) hx hb dX13_on_65 hl (k := 0) rfl (by decide) (by decide) rfl (fun ls hl => ?_)
                                        refine lv_goto (tgt := 38) hx hb dX13_on_68 (by decide) ?_
                                        refine lv_iload_n hx hb dX13_on_38 rfl (lv_at hl 0 rfl) ?_
                                        refine lv_bipush (v := 8) hx hb dX13_on_39 (by decide) ?_
                                        refine lv_icmp_ge (tgt := 71) hx hb dX13_on_41 (by decide) (fun c_21 => ?_) (fun c_21 => ?_)
                                        · exact absurd c_21 (by decide)
                                        · refine lv_aload_n hx hb dX13_on_44 rfl (lv_at hl 1 rfl) ?_
                                          refine va_get (D := D) (ci := 13) (v := .ref (g 1)) (C := RX13) (T := TX13) (N := 68) hx hb hts iG13 hown hK.1 hP 18 rfl rfl 4 (by decide) (hts _ gw1126) (fun _ h9 => h9) rfl dX13_on_45 ?_
                                          refine lv_iload_n hx hb dX13_on_48 rfl (lv_at hl 0 rfl) ?_
                                          refine va_zald hx hb hK.1 hP 0 3 rfl rfl (show vp_in 7 8 by unfold vp_in; decide) dX13_on_49 ?_
                                          refine lv_if_eq (tgt := 65) hx hb dX13_on_50 (by decide) (fun c_22 => ?_) (fun c_22 => ?_)
                                          · refine lv_iinc (v := 8) (lv' := [(3, .int 8), (0, .ref z0), (1, .int h), (2, .int a)]) hx hb dX13_on_65 hl (k := 0) rfl (by decide) (by decide) rfl (fun ls hl => ?_)
                                            refine lv_goto (tgt := 38) hx hb dX13_on_68 (by decide) ?_
                                            refine lv_iload_n hx hb dX13_on_38 rfl (lv_at hl 0 rfl) ?_
                                            refine lv_bipush (v := 8) hx hb dX13_on_39 (by decide) ?_
                                            refine lv_icmp_ge (tgt := 71) hx hb dX13_on_41 (by decide) (fun c_23 => ?_) (fun c_23 => ?_)
                                            · refine lv_aload_n hx hb dX13_on_71 rfl (lv_at hl 1 rfl) ?_
                                              refine lv_iload_n hx hb dX13_on_72 rfl (lv_at hl 2 rfl) ?_
                                              refine x_callv [(z0, .inr (13, xM g 0 0 0)), (g 1, .inl (cy 3, 8, .inl (fun _ => 0))), (g 2, .inl (cy 1, 8, .inl (fun _ => 0))), (g 4, .inl (cy 1, 8, .inl (fun _ => 0))), (g 5, .inl (cy 1, 8, .inl (fun _ => 0))), (g 6, .inl (cy 1, 8, .inl (fun _ => 0))), (g 7, .inl (cy 1, 8, .inl (fun _ => 0))), (g 8, .inl (cy 1, 8, .inl (fun _ => 0))), (g 10, .inl (cy 3, 8, .inl (fun _ => 0))), (g 11, .inl (cy 2, 8, .inr (.inl (fun _ => 0)))), (g 12, .inl (cy 2, 8, .inr (.inl (fun _ => 0)))), (g 13, .inl (cy 1, 8, .inl (fun _ => 0))), (g 15, .inl (cy 2, 8, .inr (.inl (fun _ => 0)))), (g 16, .inl (cy 1, 8, .inl (fun _ => 0))), (g 21, .inl (cy 1, 8, .inl (fun _ => 0))), (g 23, .inl (cy 1, 32, .inl (fun _ => 0))), (g 28, .inl (cy 1, 8, .inl (fun _ => 0))), (g 29, .inl (cy 1, 8, .inl (fun _ => 0)))] [(g 9, .inl (cy 1, 8, .inl (fun _ => 0)))] (va_runV (As := [.int h]) (rest := []) ⟨hx, hb, hml, hown, hts⟩ (m_forgets l D cy z0 g h h1_u_1 h2_u_1 H.size) (cwV 1 hts (xV gw1524 gw1526 gs79 gw14 gw1527) rfl rfl rfl (by decide +kernel) ⟨(Nat.le_of_ble_eq_true rfl), (Nat.le_of_ble_eq_true rfl)⟩) (xpreV hK (hP.sub (ws' := [(z0, .inr (13, xM g 0 0 0)), (g 1, .inl (cy 3, 8, .inl (fun _ => 0))), (g 2, .inl (cy 1, 8, .inl (fun _ => 0))), (g 4, .inl (cy 1, 8, .inl (fun _ => 0))), (g 5, .inl (cy 1, 8, .inl (fun _ => 0))), (g 6, .inl (cy 1, 8, .inl (fun _ => 0))), (g 7, .inl (cy 1, 8, .inl (fun _ => 0))), (g 8, .inl (cy 1, 8, .inl (fun _ => 0))), (g 10, .inl (cy 3, 8, .inl (fun _ => 0))), (g 11, .inl (cy 2, 8, .inr (.inl (fun _ => 0)))), (g 12, .inl (cy 2, 8, .inr (.inl (fun _ => 0)))), (g 13, .inl (cy 1, 8, .inl (fun _ => 0))), (g 15, .inl (cy 2, 8, .inr (.inl (fun _ => 0)))), (g 16, .inl (cy 1, 8, .inl (fun _ => 0))), (g 21, .inl (cy 1, 8, .inl (fun _ => 0))), (g 23, .inl (cy 1, 32, .inl (fun _ => 0))), (g 28, .inl (cy 1, 8, .inl (fun _ => 0))), (g 29, .inl (cy 1, 8, .inl (fun _ => 0)))]) [18, 0, 1, 2, 3, 4, 5, 6, 8, 9, 10, 11, 12, 13, 14, 15, 16, 17] rfl) (hD.sub (ws' := [(z0, .inr (13, xM g 0 0 0)), (g 1, .inl (cy 3, 8, .inl (fun _ => 0))), (g 2, .inl (cy 1, 8, .inl (fun _ => 0))), (g 4, .inl (cy 1, 8, .inl (fun _ => 0))), (g 5, .inl (cy 1, 8, .inl (fun _ => 0))), (g 6, .inl (cy 1, 8, .inl (fun _ => 0))), (g 7, .inl (cy 1, 8, .inl (fun _ => 0))), (g 8, .inl (cy 1, 8, .inl (fun _ => 0))), (g 10, .inl (cy 3, 8, .inl (fun _ => 0))), (g 11, .inl (cy 2, 8, .inr (.inl (fun _ => 0)))), (g 12, .inl (cy 2, 8, .inr (.inl (fun _ => 0)))), (g 13, .inl (cy 1, 8, .inl (fun _ => 0))), (g 15, .inl (cy 2, 8, .inr (.inl (fun _ => 0)))), (g 16, .inl (cy 1, 8, .inl (fun _ => 0))), (g 21, .inl (cy 1, 8, .inl (fun _ => 0))), (g 23, .inl (cy 1, 32, .inl (fun _ => 0))), (g 28, .inl (cy 1, 8, .inl (fun _ => 0))), (g 29, .inl (cy 1, 8, .inl (fun _ => 0)))]) [18, 0, 1, 2, 3, 4, 5, 6, 8, 9, 10, 11, 12, 13, 14, 15, 16, 17] (by decide) rfl) 0 13 rfl rfl rfl) rfl rfl hl.1 rfl (lv_room (Nat.le_of_ble_eq_true rfl)) dX13_on_73 ⟨(Nat.le_of_ble_eq_true rfl), (Nat.le_of_ble_eq_true rfl)⟩) hP hD hS hA [18, 0, 1, 2, 3, 4, 5, 6, 8, 9, 10, 11, 12, 13, 14, 15, 16, 17] [7] rfl rfl (by decide) (by decide) (fun u_24 H locs hw_u_24 hP hD hS => ?_)
                                              have hP : va_P D vwCl [(g 9, .inl (cy 1, 8, .inl (fun _ => 0))), (z0, .inr (13, xM g 0 0 0)), (g 1, .inl (cy 3, 8, .inl u_24.1)), (g 2, .inl (cy 1, 8, .inl u_24.2.1)), (g 4, .inl (cy 1, 8, .inl u_24.2.2.1)), (g 10, .inl (cy 3, 8, .inl u_24.2.2.2.1)), (g 11, .inl (cy 2, 8, .inr (.inl u_24.2.2.2.2)))] H := hP
                                              have hD : va_D A [(g 9, .inl (cy 1, 8, .inl (fun _ => 0))), (z0, .inr (13, xM g 0 0 0)), (g 1, .inl (cy 3, 8, .inl u_24.1)), (g 2, .inl (cy 1, 8, .inl u_24.2.1)), (g 4, .inl (cy 1, 8, .inl u_24.2.2.1)), (g 10, .inl (cy 3, 8, .inl u_24.2.2.2.1)), (g 11, .inl (cy 2, 8, .inr (.inl u_24.2.2.2.2)))] := hD
                                              refine W.widen (k := 0) (n := 0) (Nat.le_of_ble_eq_true rfl) (Nat.le_of_ble_eq_true rfl) ?_
                                              refine lv_aload_n hx hb dX13_on_76 rfl (lv_at hl 1 rfl) ?_
                                              refine va_get (D := D) (ci := 13) (v := .ref (g 1)) (C := RX13) (T := TX13) (N := 68) hx hb hts iG13 hown hK.1 hP 1 rfl rfl 4 (by decide) (hts _ gw1126) (fun _ h9 => h9) rfl dX13_on_77 ?_
                                              refine lv_iload_n hx hb dX13_on_80 rfl (lv_at hl 2 rfl) ?_
                                              refine lv_iconst (v := 1) hx hb dX13_on_81 (by decide) ?_
                                              refine va_zast hx hb hK.1 hP hD hS 2 3 rfl rfl (xin8 h1_u_1 h2_u_1) dX13_on_82 (fun H locs hP hD hS => ?_)
                                              obtain ⟨f_25, hP, hD⟩ : ∃ f_25 : Nat → Int32, va_P D vwCl [(g 9, .inl (cy 1, 8, .inl (fun _ => 0))), (z0, .inr (13, xM g 0 0 0)), (g 1, .inl (cy 3, 8, .inl f_25)), (g 2, .inl (cy 1, 8, .inl u_24.2.1)), (g 4, .inl (cy 1, 8, .inl u_24.2.2.1)), (g 10, .inl (cy 3, 8, .inl u_24.2.2.2.1)), (g 11, .inl (cy 2, 8, .inr (.inl u_24.2.2.2.2)))] H ∧ va_D A [(g 9, .inl (cy 1, 8, .inl (fun _ => 0))), (z0, .inr (13, xM g 0 0 0)), (g 1, .inl (cy 3, 8, .inl f_25)), (g 2, .inl (cy 1, 8, .inl u_24.2.1)), (g 4, .inl (cy 1, 8, .inl u_24.2.2.1)), (g 10, .inl (cy 3, 8, .inl u_24.2.2.2.1)), (g 11, .inl (cy 2, 8, .inr (.inl u_24.2.2.2.2)))] := ⟨_, hP, hD⟩
                                              refine lv_aload_n hx hb dX13_on_83 rfl (lv_at hl 1 rfl) ?_
                                              refine va_get (D := D) (ci := 13) (v := .ref (g 2)) (C := RX13) (T := TX13) (N := 68) hx hb hts iG13 hown hK.1 hP 1 rfl rfl 5 (by decide) (hts _ gw1127) (fun _ h9 => h9) rfl dX13_on_84 ?_
                                              refine lv_iload_n hx hb dX13_on_87 rfl (lv_at hl 2 rfl) ?_
                                              refine lv_iload_n hx hb dX13_on_88 rfl (lv_at hl 3 rfl) ?_
                                              refine va_iast hx hb hK.1 hP hD hS 3 1 rfl rfl (xin8 h1_u_1 h2_u_1) dX13_on_89 (fun H locs hP hD hS => ?_)
                                              obtain ⟨f_26, hP, hD⟩ : ∃ f_26 : Nat → Int32, va_P D vwCl [(g 9, .inl (cy 1, 8, .inl (fun _ => 0))), (z0, .inr (13, xM g 0 0 0)), (g 1, .inl (cy 3, 8, .inl f_25)), (g 2, .inl (cy 1, 8, .inl f_26)), (g 4, .inl (cy 1, 8, .inl u_24.2.2.1)), (g 10, .inl (cy 3, 8, .inl u_24.2.2.2.1)), (g 11, .inl (cy 2, 8, .inr (.inl u_24.2.2.2.2)))] H ∧ va_D A [(g 9, .inl (cy 1, 8, .inl (fun _ => 0))), (z0, .inr (13, xM g 0 0 0)), (g 1, .inl (cy 3, 8, .inl f_25)), (g 2, .inl (cy 1, 8, .inl f_26)), (g 4, .inl (cy 1, 8, .inl u_24.2.2.1)), (g 10, .inl (cy 3, 8, .inl u_24.2.2.2.1)), (g 11, .inl (cy 2, 8, .inr (.inl u_24.2.2.2.2)))] := ⟨_, hP, hD⟩
                                              refine lv_aload_n hx hb dX13_on_90 rfl (lv_at hl 1 rfl) ?_
                                              refine lv_iload_n hx hb dX13_on_91 rfl (lv_at hl 2 rfl) ?_
                                              refine x_callv [(z0, .inr (13, xM g 0 0 0)), (g 2, .inl (cy 1, 8, .inl f_26)), (g 4, .inl (cy 1, 8, .inl u_24.2.2.1)), (g 10, .inl (cy 3, 8, .inl u_24.2.2.2.1)), (g 9, .inl (cy 1, 8, .inl (fun _ => 0))), (g 11, .inl (cy 2, 8, .inr (.inl u_24.2.2.2.2)))] [(g 1, .inl (cy 3, 8, .inl f_25))] (va_runV (As := [.int h]) (rest := []) ⟨hx, hb, hml, hown, hts⟩ (m_probes l D cy z0 g f_26 u_24.2.2.1 u_24.2.2.2.1 (fun _ => 0) u_24.2.2.2.2 h h1_u_1 h2_u_1 H.size) (cwV 1 hts (xV gw1404 gw1406 gs57 gw14 gw1407) rfl rfl rfl (by decide +kernel) ⟨(Nat.le_of_ble_eq_true rfl), (Nat.le_of_ble_eq_true rfl)⟩) (xpreV hK (hP.sub (ws' := [(z0, .inr (13, xM g 0 0 0)), (g 2, .inl (cy 1, 8, .inl f_26)), (g 4, .inl (cy 1, 8, .inl u_24.2.2.1)), (g 10, .inl (cy 3, 8, .inl u_24.2.2.2.1)), (g 9, .inl (cy 1, 8, .inl (fun _ => 0))), (g 11, .inl (cy 2, 8, .inr (.inl u_24.2.2.2.2)))]) [1, 3, 4, 5, 0, 6] rfl) (hD.sub (ws' := [(z0, .inr (13, xM g 0 0 0)), (g 2, .inl (cy 1, 8, .inl f_26)), (g 4, .inl (cy 1, 8, .inl u_24.2.2.1)), (g 10, .inl (cy 3, 8, .inl u_24.2.2.2.1)), (g 9, .inl (cy 1, 8, .inl (fun _ => 0))), (g 11, .inl (cy 2, 8, .inr (.inl u_24.2.2.2.2)))]) [1, 3, 4, 5, 0, 6] (by decide) rfl) 0 13 rfl rfl rfl) rfl rfl hl.1 rfl (lv_room (Nat.le_of_ble_eq_true rfl)) dX13_on_92 ⟨(Nat.le_of_ble_eq_true rfl), (Nat.le_of_ble_eq_true rfl)⟩) hP hD hS hA [1, 3, 4, 5, 0, 6] [2] rfl rfl (by decide) (by decide) (fun u_27 H locs hw_u_27 hP hD hS => ?_)
                                              have hP : va_P D vwCl [(g 1, .inl (cy 3, 8, .inl f_25))] H := hP
                                              have hD : va_D A [(g 1, .inl (cy 3, 8, .inl f_25))] := hD
                                              refine W.widen (k := 0) (n := 0) (Nat.le_of_ble_eq_true rfl) (Nat.le_of_ble_eq_true rfl) ?_
                                              refine lv_iconst (v := 1) hx hb dX13_on_95 (by decide) ?_
                                              have hP9 := hP.sub (ws' := []) [] rfl
                                              have hD9 := hD.sub (ws' := []) [] (by decide) rfl
                                              refine W.widen (k := 0) (n := 0) (Nat.le_of_ble_eq_true rfl) (Nat.le_of_ble_eq_true rfl) ?_
                                              exact W.zret (v := 1) hx hb hr (by decide) (fun t ht hW => ⟨⟨1, (), rfl, (show _ = xon h a by unfold xon; simp [h1_u_1, h2_u_1, c_5, c_6]), by rw [ht]; exact hP9, hD9⟩, hS.F ht⟩) hS.2.2 dX13_on_96
                                            · exact absurd c_23 (by decide)
                                          · exact absurd c_22 (by decide)
                                      · exact absurd c_20 (by decide)
                                  · exact absurd c_18 (by decide)
                              · exact absurd c_16 (by decide)
                          · exact absurd c_14 (by decide)
                      · exact absurd c_12 (by decide)
                  · exact absurd c_10 (by decide)
              · exact absurd c_8 (by decide)
          · refine lv_iconst (v := 0) hx hb dX13_on_34 (by decide) ?_
            have hP9 := hP.sub (ws' := []) [] rfl
            have hD9 := hD.sub (ws' := []) [] (by decide) rfl
            refine W.widen (k := 0) (n := 0) (Nat.le_of_ble_eq_true rfl) (Nat.le_of_ble_eq_true rfl) ?_
            exact W.zret (v := 0) hx hb hr (by decide) (fun t ht hW => ⟨⟨0, (), rfl, (show _ = xon h a by unfold xon; simp [h1_u_1, h2_u_1, c_5, c_6]), by rw [ht]; exact hP9, hD9⟩, hS.F ht⟩) hS.2.2 dX13_on_35
