theorem gw77 : (Cond.methodLink RX11 3 objectInit) ∈ xG := xin1 77 (by decide +kernel) (by decide +kernel)
theorem gw27 : (Cond.instanceMethod objectInit) ∈ xG := xin1 27 (by decide +kernel) (by decide +kernel)
theorem gw28 : (Cond.code objectInit ⟨#[0xb1]⟩ 1 none) ∈ xG := xin1 28 (by decide +kernel) (by decide +kernel)
theorem gw62 : (Cond.arrayClass .byte) ∈ xG := xin1 62 (by decide +kernel) (by decide +kernel)
theorem gw78 : (Cond.fieldLink RX11 11 "CableNames$Word" "signs" "[B") ∈ xG := xin1 78 (by decide +kernel) (by decide +kernel)
theorem gw81 : (Cond.fieldLink RX11 15 "CableNames$Word" "size" "I") ∈ xG := xin1 81 (by decide +kernel) (by decide +kernel)
theorem xV {own : String} {idx : Nat} {C : String} {y : MethodName} {c : ByteArray} {n : Nat} {r : Option FieldType} (h1 : Cond.methodLink own idx y ∈ xG) (h2 : Cond.instanceMethod y ∈ xG) (h3 : Cond.selects C y y ∈ xG) (h4 : Cond.initialized C ∈ xG) (h5 : Cond.code y c n r ∈ xG) : GoodIn xG (wsV own idx C y (xw y c n r)) := by
  have h : ∀ w ∈ wsV own idx C y (xw y c n r), w ∈ xG := by
    intro w hw
    unfold wsV at hw
    rcases List.mem_append.mp hw with q | q
    · rcases List.mem_cons.mp q with e | q
      · exact e ▸ h1
      · rcases List.mem_cons.mp q with e | q
        · exact e ▸ h2
        · rcases List.mem_cons.mp q with e | q
          · exact e ▸ h3
          · rcases List.mem_cons.mp q with e | q
            · exact e ▸ h4
            · exact absurd q List.not_mem_nil
    · exact xw_in h5 w q
  exact fun w hw => ⟨h w hw, xgood (h w hw)⟩
set_option maxHeartbeats 4000000 in
set_option maxRecDepth 100000 in
theorem c_Word_init (l : Launch) (D : va_G) (cy : Nat → ClassId) (w : Nat) : xMv l D cy yX11_init cX11_init 1 ({ frames := 1, cells := 1, slots := 15, locals := 12 }) [.ref w] [(w, .inr (11, [.null, .int 0]))] (S := Unit) (fun _ => True) (fun _ => []) := by
  intro sz
  refine Met.ofW (cc := cX11_init) (maxL := 1) (ret := none) (by decide) rfl ?_
  intro p e s m args below meth c s₁ B hml hv
  obtain ⟨rfl, hsz, hP, hK, hD0⟩ := hv
  have hx := B.exec
  have hb := B.bytes
  have hr := B.returns
  have hts0 := atoms_spec (ws := xw yX11_init cX11_init 1 none) B.pre
  have hts : ∀ w ∈ xG, w.before _ s = true := fun w h => hts0 w (List.mem_cons_of_mem _ h)
  have hown : s.vm.findClass RX11 = some m.cls := findClass_of_methodNamed B.named
  have hlocks := B.notSynchronized
  have hin : meth.name = "<init>" := (name_of_methodNamed B.named B.method).1
  subst hsz
  have hD := hD0.self (sz := s.heap.size)
  generalize hAe : va_A [(w, .inr (11, [.null, .int 0]))] s.heap.size = A at hD ⊢
  have hA : ∀ q : Nat, s.heap.size ≤ q → A q := fun q h => by rw [← hAe]; exact Or.inr h
  have hS : va_S A s.heap s.heap [] := va_S.rf
  have hl := lv_entry ([.ref w]) (n := 1) (Nat.le_of_ble_eq_true rfl)
  rw [lg_entry_eq]
  generalize (lg_sl ([.ref w]) ++ List.replicate (1 - (lg_sl ([.ref w])).length) Slot.unset).toArray = ls at hl ⊢
  have hl : lv_has ls 1 [(0, .ref w)] := hl
  refine lv_aload_n hx hb dX11_init_0 rfl (lv_at hl 0 rfl) ?_
  refine W.objInit hx hb hown (hts _ gw77) (hts _ gw27) (hts _ gw28) rfl (by rw [hml]; exact hl.1) rfl dX11_init_1 (Nat.le_of_ble_eq_true rfl) (Nat.le_of_ble_eq_true rfl) ?_
  refine W.eq (g2 := F0 m 4 ls []) rfl ?_
  refine lv_aload_n hx hb dX11_init_4 rfl (lv_at hl 0 rfl) ?_
  refine lv_bipush (v := 15) hx hb dX11_init_5 (by decide) ?_
  refine x_newa (atype := .byte) (a0 := (15, .inl (fun _ => 0))) hx hb (hts _ gw62) hK.1 hP hD hS hA 0 rfl (fun _ => rfl) (by decide) (by decide +kernel) (by decide) (Nat.le_of_ble_eq_true rfl) (Nat.le_of_ble_eq_true rfl) dX11_init_7 (fun q_1 H hP hD hS => ?_)
  have hP : va_P D vwCl [(w, .inr (11, [.null, .int 0])), (q_1, .inl (cy 0, 15, .inl (fun _ => 0)))] H := hP
  have hD : va_D A [(w, .inr (11, [.null, .int 0])), (q_1, .inl (cy 0, 15, .inl (fun _ => 0)))] := hD
  refine W.widen (k := 1) (n := 15) (Nat.le_of_ble_eq_true rfl) (Nat.le_of_ble_eq_true rfl) ?_
  refine va_putF (D := D) (ci := 11) (v := .ref q_1) (ty := tyX11 0) (C := RX11) (T := TX11) (N := 2) hx hb hts iG11 tyX11 tyX11_ok nmX11 hown hK.1 hP hD hS 0 rfl rfl 0 (by decide) (hts _ gw78) (fun _ h9 => h9) rfl hin rfl (by decide +kernel) rfl rfl (Nat.le_of_ble_eq_true rfl) dX11_init_9 (fun H locs hP hD hS => ?_)
  have hP : va_P D vwCl [(w, .inr (11, [.ref q_1, .int 0])), (q_1, .inl (cy 0, 15, .inl (fun _ => 0)))] H := hP
  have hD : va_D A [(w, .inr (11, [.ref q_1, .int 0])), (q_1, .inl (cy 0, 15, .inl (fun _ => 0)))] := hD
  refine lv_aload_n hx hb dX11_init_12 rfl (lv_at hl 0 rfl) ?_
  refine lv_iconst (v := 0) hx hb dX11_init_13 (by decide) ?_
  refine va_put (D := D) (ci := 11) (v := .int 0) (ty := .int) (C := RX11) (T := TX11) (N := 2) hx hb hts iG11 tyX11 tyX11_ok nmX11 hown hK.1 hP hD hS 0 rfl rfl 1 (by decide) (hts _ gw81) (fun _ h9 => h9) rfl (by decide +kernel) rfl rfl (Nat.le_of_ble_eq_true rfl) dX11_init_14 (fun H locs hP hD hS => ?_)
  have hP : va_P D vwCl [(w, .inr (11, [.ref q_1, .int 0])), (q_1, .inl (cy 0, 15, .inl (fun _ => 0)))] H := hP
  have hD : va_D A [(w, .inr (11, [.ref q_1, .int 0])), (q_1, .inl (cy 0, 15, .inl (fun _ => 0)))] := hD
  have hP9 := hP.sub (ws' := []) [] rfl
  have hD9 := hD.sub (ws' := []) [] (by decide) rfl
  refine W.widen (k := 1) (n := 15) (Nat.le_of_ble_eq_true rfl) (Nat.le_of_ble_eq_true rfl) ?_
  exact W.vret hx hb hr (fun t ht hW => ⟨⟨(), rfl, trivial, by rw [ht]; exact hP9, hD9⟩, hS.F ht⟩) hS.2.2 dX11_init_17
