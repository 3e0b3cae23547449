/-- contracts over the pool: typed in, typed out; what was there stays, with its kind -/
def pKeep (L : List Nat) (S : pS) (u : List Nat × pS) : Prop := Typed u.1 u.2 ∧ ∀ b ∈ L, b ∈ u.1 ∧ u.2.1 b = S.1 b
abbrev pMv (l : Launch) (D : va_G) (cy : Nat → ClassId) (y : MethodName) (c : ByteArray) (n : Nat) (rm : Room) (av : List Value) (L : List Nat) (S : pS) (post : List Nat × pS → Prop) : Prop := ∀ sz : Nat, Met l y (xw y c n none) rm (va_Pc av (xPre D cy sz (va_pl L (pF cy S)))) (va_Qv post (xB D (va_A (va_pl L (pF cy S)) sz) (fun u : List Nat × pS => va_pl u.1 (pF cy u.2))) (va_A (va_pl L (pF cy S)) sz)) rm.cells rm.slots (va_A (va_pl L (pF cy S)) sz)
set_option maxHeartbeats 4000000 in
theorem t_Word_clear (l : Launch) (D : va_G) (cy : Nat → ClassId) (L : List Nat) (S : pS) (hT : Typed L S) (a : Nat) (ha : a ∈ L) (hka : S.1 a = 11) : pMv l D cy yX11_clear cX11_clear 1 ({ frames := 0, cells := 0, slots := 0, locals := 0 }) [.ref a] L S (pKeep L S) := by
  intro sz
  refine Met.ofW (cc := cX11_clear) (maxL := 1) (ret := none) (by decide) rfl ?_
  intro p e s m args below meth c s₁ B hml hv
  obtain ⟨rfl, hsz, hP, hK, hD0⟩ := hv
  have hx := B.exec
  have hb := B.bytes
  have hr := B.returns
  have hts0 := atoms_spec (ws := xw yX11_clear cX11_clear 1 none) B.pre
  have hts : ∀ w ∈ xG, w.before _ s = true := fun w h => hts0 w (List.mem_cons_of_mem _ h)
  have hown : s.vm.findClass RX11 = some m.cls := findClass_of_methodNamed B.named
  have hlocks := B.notSynchronized
  subst hsz
  have hD := hD0.self (sz := s.heap.size)
  generalize hAe : va_A (va_pl L (pF cy S)) s.heap.size = A at hD ⊢
  have hA : ∀ q : Nat, s.heap.size ≤ q → A q := fun q h => by rw [← hAe]; exact Or.inr h
  have hS : va_S A s.heap s.heap [] := va_S.rf
  have hl := lv_entry ([.ref a]) (n := 1) (Nat.le_of_ble_eq_true rfl)
  rw [lg_entry_eq]
  generalize (lg_sl ([.ref a]) ++ List.replicate (1 - (lg_sl ([.ref a])).length) Slot.unset).toArray = ls at hl ⊢
  have hl : lv_has ls 1 [(0, .ref a)] := hl
  refine lv_aload_n hx hb dX11_clear_0 rfl (lv_at hl 0 rfl) ?_
  refine lv_iconst (v := 0) hx hb dX11_clear_1 (by decide) ?_
  refine p_put (X := []) (C := RX11) (T := TX11) (N := 2) (ty := .int) (v := .int 0) hx hb hts iG11 tyX11 tyX11_ok nmX11 hown hK hP hD hS ha hka (by decide) rfl rfl 1 (by decide) (hts _ gw81) (fun _ h9 => h9) rfl (by decide +kernel) rfl rfl dX11_clear_2 (fun H locs hP hD hS => ?_)
  have hT2 := hT.put (a := a) (j := 1) (v := .int 0) (by rw [hka]; exact Or.inr (Or.inl ⟨rfl, 0, by decide, rfl⟩))
  exact W.vret hx hb hr (fun t ht hW => ⟨⟨(L, S.1, pV S.2.1 a 1 (.int 0), S.2.2), rfl, ⟨hT2, fun b hb => ⟨hb, rfl⟩⟩, by rw [ht]; exact hP, hD⟩, hS.F ht⟩) hS.2.2 dX11_clear_5
