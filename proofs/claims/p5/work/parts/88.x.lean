section PX
variable {n mi pc nx : Nat} {lv : LV} {r : List Value} {σ : ps} {x : Option Value × ps} {a b : Int} {ts : List Nat}
theorem v_nul (h : prun n mi pc lv r σ = some x) (hq : pins mi pc = some (2, nx, a, b, ts)) : ∃ m, m < n ∧ prun m mi nx lv (.null :: r) σ = some x := by
  obtain ⟨m, pc', lv', st', σ', hm, h1, h2⟩ := pinv h hq (fun e => absurd (show (2 : Nat) = 36 from e) (by decide)) (fun e => absurd (show 37 ≤ (2 : Nat) ∧ (2 : Nat) ≤ 40 from e) (by decide))
  have h1 : some (nx, lv, .null :: r, σ) = some (pc', lv', st', σ') := h1
  cases h1
  exact ⟨m, hm, h2⟩
theorem v_aald {u w : Nat} {i : Int32} (h : prun n mi pc lv (.int i :: .ref u :: r) σ = some x) (hq : pins mi pc = some (27, nx, a, b, ts)) (hv : sV σ u i.toNatClampNeg = .ref w) : ∃ m, m < n ∧ prun m mi nx lv (.ref w :: r) σ = some x := by
  obtain ⟨m, pc', lv', st', σ', hm, h1, h2⟩ := pinv h hq (fun e => absurd (show (27 : Nat) = 36 from e) (by decide)) (fun e => absurd (show 37 ≤ (27 : Nat) ∧ (27 : Nat) ≤ 40 from e) (by decide))
  have h1 : f_aald (27, nx, a, b, ts) lv (.int i :: .ref u :: r) σ = some (pc', lv', st', σ') := h1
  unfold f_aald at h1
  simp only at h1
  rw [hv] at h1
  split at h1
  · cases h1
    exact ⟨m, hm, h2⟩
  · cases h1
theorem v_aast {u w : Nat} {i : Int32} (h : prun n mi pc lv (.ref w :: .int i :: .ref u :: r) σ = some x) (hq : pins mi pc = some (31, nx, a, b, ts)) : ∃ m, m < n ∧ prun m mi nx lv r (sPut σ u i.toNatClampNeg (.ref w)) = some x := by
  obtain ⟨m, pc', lv', st', σ', hm, h1, h2⟩ := pinv h hq (fun e => absurd (show (31 : Nat) = 36 from e) (by decide)) (fun e => absurd (show 37 ≤ (31 : Nat) ∧ (31 : Nat) ≤ 40 from e) (by decide))
  have h1 : f_aast (31, nx, a, b, ts) lv (.ref w :: .int i :: .ref u :: r) σ = some (pc', lv', st', σ') := h1
  unfold f_aast at h1
  simp only at h1
  split at h1
  · cases h1
    exact ⟨m, hm, h2⟩
  · cases h1
theorem v_new (h : prun n mi pc lv r σ = some x) (hq : pins mi pc = some (41, nx, a, b, ts)) : ∃ m, m < n ∧ prun m mi nx lv (.ref σ.1 :: r) (sNew σ a.toNat (nF a.toNat) (dfv a.toNat)) = some x := by
  obtain ⟨m, pc', lv', st', σ', hm, h1, h2⟩ := pinv h hq (fun e => absurd (show (41 : Nat) = 36 from e) (by decide)) (fun e => absurd (show 37 ≤ (41 : Nat) ∧ (41 : Nat) ≤ 40 from e) (by decide))
  have h1 : f_new (41, nx, a, b, ts) lv r σ = some (pc', lv', st', σ') := h1
  unfold f_new at h1
  cases h1
  exact ⟨m, hm, h2⟩
theorem v_nn0 (h : prun n mi pc lv (.null :: r) σ = some x) (hq : pins mi pc = some (19, nx, a, b, ts)) : ∃ m, m < n ∧ prun m mi nx lv r σ = some x := by
  obtain ⟨m, pc', lv', st', σ', hm, h1, h2⟩ := pinv h hq (fun e => absurd (show (19 : Nat) = 36 from e) (by decide)) (fun e => absurd (show 37 ≤ (19 : Nat) ∧ (19 : Nat) ≤ 40 from e) (by decide))
  have h1 : some (nx, lv, r, σ) = some (pc', lv', st', σ') := h1
  cases h1
  exact ⟨m, hm, h2⟩
theorem v_nn1 {u : Nat} (h : prun n mi pc lv (.ref u :: r) σ = some x) (hq : pins mi pc = some (19, nx, a, b, ts)) : ∃ m, m < n ∧ prun m mi b.toNat lv r σ = some x := by
  obtain ⟨m, pc', lv', st', σ', hm, h1, h2⟩ := pinv h hq (fun e => absurd (show (19 : Nat) = 36 from e) (by decide)) (fun e => absurd (show 37 ≤ (19 : Nat) ∧ (19 : Nat) ≤ 40 from e) (by decide))
  have h1 : some (b.toNat, lv, r, σ) = some (pc', lv', st', σ') := h1
  cases h1
  exact ⟨m, hm, h2⟩
theorem v_in0 (h : prun n mi pc lv (.null :: r) σ = some x) (hq : pins mi pc = some (18, nx, a, b, ts)) : ∃ m, m < n ∧ prun m mi b.toNat lv r σ = some x := by
  obtain ⟨m, pc', lv', st', σ', hm, h1, h2⟩ := pinv h hq (fun e => absurd (show (18 : Nat) = 36 from e) (by decide)) (fun e => absurd (show 37 ≤ (18 : Nat) ∧ (18 : Nat) ≤ 40 from e) (by decide))
  have h1 : some (b.toNat, lv, r, σ) = some (pc', lv', st', σ') := h1
  cases h1
  exact ⟨m, hm, h2⟩
theorem v_in1 {u : Nat} (h : prun n mi pc lv (.ref u :: r) σ = some x) (hq : pins mi pc = some (18, nx, a, b, ts)) : ∃ m, m < n ∧ prun m mi nx lv r σ = some x := by
  obtain ⟨m, pc', lv', st', σ', hm, h1, h2⟩ := pinv h hq (fun e => absurd (show (18 : Nat) = 36 from e) (by decide)) (fun e => absurd (show 37 ≤ (18 : Nat) ∧ (18 : Nat) ≤ 40 from e) (by decide))
  have h1 : some (nx, lv, r, σ) = some (pc', lv', st', σ') := h1
  cases h1
  exact ⟨m, hm, h2⟩
theorem v_asn (h : prun n mi pc lv (.null :: r) σ = some x) (hq : pins mi pc = some (8, nx, a, b, ts)) : ∃ m, m < n ∧ prun m mi nx (pst1 lv a.toNat .null) r σ = some x := by
  obtain ⟨m, pc', lv', st', σ', hm, h1, h2⟩ := pinv h hq (fun e => absurd (show (8 : Nat) = 36 from e) (by decide)) (fun e => absurd (show 37 ≤ (8 : Nat) ∧ (8 : Nat) ≤ 40 from e) (by decide))
  have h1 : f_astore (8, nx, a, b, ts) lv (.null :: r) σ = some (pc', lv', st', σ') := h1
  unfold f_astore at h1
  cases h1
  exact ⟨m, hm, h2⟩
theorem v_aln (h : prun n mi pc lv r σ = some x) (hq : pins mi pc = some (5, nx, a, b, ts)) (hv : plk lv a.toNat = some .null) : ∃ m, m < n ∧ prun m mi nx lv (.null :: r) σ = some x := by
  obtain ⟨m, pc', lv', st', σ', hm, h1, h2⟩ := pinv h hq (fun e => absurd (show (5 : Nat) = 36 from e) (by decide)) (fun e => absurd (show 37 ≤ (5 : Nat) ∧ (5 : Nat) ≤ 40 from e) (by decide))
  have h1 : f_aload (5, nx, a, b, ts) lv r σ = some (pc', lv', st', σ') := h1
  unfold f_aload at h1
  simp only at h1
  rw [hv] at h1
  cases h1
  exact ⟨m, hm, h2⟩
end PX
/-- the class's hosts -/
def HCls (hr : Nat) (ha : Nat → Nat) (x : Nat) (σ : ps) : Prop := sV σ x 0 = .ref hr ∧ (∀ i, i < 8 → sV σ hr i = .ref (ha i)) ∧ (∀ i k, i < 8 → k < 8 → ha i = ha k → i = k) ∧ ∀ i, i < 8 → sV σ (ha i) 7 = .int (toI (sV σ (ha i) 7)) ∧ sV σ (ha i) 8 = .int (toI (sV σ (ha i) 8))
def cO (σ : ps) (ha : Nat → Nat) (i : Nat) : Int32 := toI (sV σ (ha i) 7)
def cI (σ : ps) (ha : Nat → Nat) (i : Nat) : Int32 := toI (sV σ (ha i) 8)
section HC1
variable {n x hr : Nat} {ha : Nat → Nat} {σ : ps} {y : Option Value × ps}
theorem HCls.at (C : HCls hr ha x σ) {h : Int32} (h0 : 0 ≤ h.toInt ∧ h.toInt ≤ 7) : sV σ hr h.toNatClampNeg = .ref (ha h.toNatClampNeg) ∧ sV σ (ha h.toNatClampNeg) 7 = .int (cO σ ha h.toNatClampNeg) ∧ sV σ (ha h.toNatClampNeg) 8 = .int (cI σ ha h.toNatClampNeg) := by
  have cn : (h.toNatClampNeg : Int) = h.toInt := n_clamp h0.1
  have l : h.toNatClampNeg < 8 := by omega
  exact ⟨C.2.1 _ l, (C.2.2.2 _ l).1, (C.2.2.2 _ l).2⟩
theorem pc_hto {hh : Int32} (C : HCls hr ha x σ) (run : prun n 99 0 (lv_args 0 [.ref x, .int hh]) [] σ = some y) : y.2 = σ ∧ ((offOK (cO σ ha) hh ∧ y.1 = some (.ref (ha hh.toNatClampNeg))) ∨ ((¬ offOK (cO σ ha) hh) ∧ y.1 = some .null)) := by
  have h : prun n 99 0 [(0, .ref x), (1, .int hh)] [] σ = some y := run
  have no : ∀ {k : Nat}, (¬ offOK (cO σ ha) hh) → prun k 99 22 [(0, .ref x), (1, .int hh)] [] σ = some y → y.2 = σ ∧ ((offOK (cO σ ha) hh ∧ y.1 = some (.ref (ha hh.toNatClampNeg))) ∨ ((¬ offOK (cO σ ha) hh) ∧ y.1 = some .null)) := by
    intro k nok h
    obtain ⟨k1, l1, h⟩ := v_nul h (by decide +kernel : pins 99 22 = some (2, 23, 0, 0, []))
    have ex := pinv_ret h (by decide +kernel : pins 99 23 = some (40, 24, 0, 0, [])) (by decide) (r := some .null) (by show (if isObj (rt 99) then some (some Value.null) else none) = _; rw [if_pos (by decide +kernel)])
    rw [ex]
    exact ⟨rfl, Or.inr ⟨nok, rfl⟩⟩
  obtain ⟨n1, l1, h⟩ := v_il h (by decide +kernel : pins 99 0 = some (3, 1, 1, 0, [])) (v := hh) rfl
  obtain ⟨n2, l2, ⟨c1, h⟩ | ⟨c1, h⟩⟩ := u_if2 h (by decide +kernel : pins 99 1 = some (16, 4, 2, ((22 : Nat) : Int), []))
  · exact no (fun a => by have := a.1; omega) h
  obtain ⟨n3, l3, h⟩ := v_il h (by decide +kernel : pins 99 4 = some (3, 5, 1, 0, [])) (v := hh) rfl
  obtain ⟨n4, w5, l4, ⟨e5, i5⟩, h⟩ := u_ic h (by decide +kernel : pins 99 5 = some (0, 7, 8, 0, [])) (by decide)
  obtain ⟨n5, l5, ⟨c7, h⟩ | ⟨c7, h⟩⟩ := u_ic3 h (by decide +kernel : pins 99 7 = some (17, 10, 3, ((22 : Nat) : Int), []))
  · exact no (fun a => by have := a.1; omega) h
  have h0 : 0 ≤ hh.toInt ∧ hh.toInt ≤ 7 := by omega
  obtain ⟨d1, d2, d3⟩ := C.at h0
  obtain ⟨n6, l6, h⟩ := v_al h (by decide +kernel : pins 99 10 = some (5, 11, 0, 0, [])) (v := x) rfl
  obtain ⟨n7, l7, _, h⟩ := v_get h (by decide +kernel : pins 99 11 = some (22, 14, 12, 0, []))
  rw [show sV σ x (0 : Int).toNat = .ref hr from C.1] at h
  obtain ⟨n8, l8, h⟩ := v_il h (by decide +kernel : pins 99 14 = some (3, 15, 1, 0, [])) (v := hh) rfl
  obtain ⟨n9, l9, h⟩ := v_aald h (by decide +kernel : pins 99 15 = some (27, 16, 0, 0, [])) d1
  obtain ⟨n10, l10, _, h⟩ := v_get h (by decide +kernel : pins 99 16 = some (22, 19, 3, 7, []))
  rw [show sV σ (ha hh.toNatClampNeg) (7 : Int).toNat = .int (cO σ ha hh.toNatClampNeg) from d2] at h
  obtain ⟨n11, l11, ⟨c19, h⟩ | ⟨c19, h⟩⟩ := u_if1 h (by decide +kernel : pins 99 19 = some (16, 22, 1, ((24 : Nat) : Int), []))
  · obtain ⟨n12, l12, h⟩ := v_al h (by decide +kernel : pins 99 24 = some (5, 25, 0, 0, [])) (v := x) rfl
    obtain ⟨n13, l13, _, h⟩ := v_get h (by decide +kernel : pins 99 25 = some (22, 28, 12, 0, []))
    rw [show sV σ x (0 : Int).toNat = .ref hr from C.1] at h
    obtain ⟨n14, l14, h⟩ := v_il h (by decide +kernel : pins 99 28 = some (3, 29, 1, 0, [])) (v := hh) rfl
    obtain ⟨n15, l15, h⟩ := v_aald h (by decide +kernel : pins 99 29 = some (27, 30, 0, 0, [])) d1
    have ex := pinv_ret h (by decide +kernel : pins 99 30 = some (40, 31, 0, 0, [])) (by decide) (r := some (.ref (ha hh.toNatClampNeg))) (by show (if isObj (rt 99) then some (some (Value.ref _)) else none) = _; rw [if_pos (by decide +kernel)])
    rw [ex]
    exact ⟨rfl, Or.inl ⟨⟨h0, c19⟩, rfl⟩⟩
  · exact no (fun a => a.2 c19) h
theorem pc_lo {hh nn : Int32} (C : HCls hr ha x σ) (run : prun n 97 0 (lv_args 0 [.ref x, .int hh, .int nn]) [] σ = some y) : ∃ w : Int32, y.1 = some (.int w) ∧ ((loseOK (cO σ ha) hh nn ∧ w.toInt = 1) ∨ ((¬ loseOK (cO σ ha) hh nn) ∧ w.toInt = 0)) := by
  have hr0 : prun n 97 0 [(0, .ref x), (1, .int hh), (2, .int nn)] [] σ = some y := run
  obtain ⟨n1, l1, h⟩ := v_al hr0 (by decide +kernel : pins 97 0 = some (5, 1, 0, 0, [])) (v := x) rfl
  obtain ⟨n2, l2, h⟩ := v_il h (by decide +kernel : pins 97 1 = some (3, 2, 1, 0, [])) (v := hh) rfl
  obtain ⟨n3, r2, s2, l3, h2, h⟩ := pinv_call h (by decide +kernel : pins 97 2 = some (36, 5, 99, 0, [2]))
  have h2 : prun n3 99 0 (lv_args 0 [.ref x, .int hh]) [] σ = some (r2, s2) := h2
  obtain ⟨es, z⟩ := pc_hto C h2
  have es : s2 = σ := es
  subst es
  have no : ∀ {k : Nat} {lv : LV}, (¬ loseOK (cO s2 ha) hh nn) → prun k 97 21 lv [] s2 = some y → ∃ w : Int32, y.1 = some (.int w) ∧ ((loseOK (cO s2 ha) hh nn ∧ w.toInt = 1) ∨ ((¬ loseOK (cO s2 ha) hh nn) ∧ w.toInt = 0)) := by
    intro k lv nok h
    obtain ⟨k1, w, j1, ⟨e, i⟩, h⟩ := u_ic h (by decide +kernel : pins 97 21 = some (0, 22, 0, 0, [])) (by decide)
    have ex := u_ret38 h (by decide +kernel : pins 97 22 = some (38, 23, 0, 0, []))
    exact ⟨w, by rw [ex], Or.inr ⟨nok, i⟩⟩
  rcases z with ⟨ok, er⟩ | ⟨nok, er⟩
  · have er : r2 = some (.ref (ha hh.toNatClampNeg)) := er
    subst er
    have h : prun n3 97 5 [(0, .ref x), (1, .int hh), (2, .int nn)] [.ref (ha hh.toNatClampNeg)] s2 = some y := h
    obtain ⟨n4, l4, h⟩ := v_as h (by decide +kernel : pins 97 5 = some (8, 6, 3, 0, []))
    obtain ⟨n5, l5, h⟩ := v_al h (by decide +kernel : pins 97 6 = some (5, 7, 3, 0, [])) (v := ha hh.toNatClampNeg) rfl
    obtain ⟨n6, l6, h⟩ := v_in1 h (by decide +kernel : pins 97 7 = some (18, 10, 0, 21, []))
    obtain ⟨n7, l7, h⟩ := v_il h (by decide +kernel : pins 97 10 = some (3, 11, 2, 0, [])) (v := nn) rfl
    obtain ⟨n8, l8, ⟨c11, h⟩ | ⟨c11, h⟩⟩ := u_if2 h (by decide +kernel : pins 97 11 = some (16, 14, 2, ((21 : Nat) : Int), []))
    · exact no (fun a => by have := a.2; omega) h
    obtain ⟨n9, l9, h⟩ := v_il h (by decide +kernel : pins 97 14 = some (3, 15, 2, 0, [])) (v := nn) rfl
    obtain ⟨n10, w15, l10, ⟨e15, i15⟩, h⟩ := u_ic h (by decide +kernel : pins 97 15 = some (0, 18, 1000, 0, [])) (by decide)
    obtain ⟨n11, l11, ⟨c18, h⟩ | ⟨c18, h⟩⟩ := u_ic5 h (by decide +kernel : pins 97 18 = some (17, 21, 5, ((23 : Nat) : Int), []))
    · obtain ⟨n12, l12, h⟩ := v_al h (by decide +kernel : pins 97 23 = some (5, 24, 3, 0, [])) (v := ha hh.toNatClampNeg) rfl
      obtain ⟨n13, l13, h⟩ := v_il h (by decide +kernel : pins 97 24 = some (3, 25, 2, 0, [])) (v := nn) rfl
      obtain ⟨n14, l14, h⟩ := v_put h (by decide +kernel : pins 97 25 = some (23, 28, 3, 15, []))
      obtain ⟨n15, w, l15, ⟨e, i⟩, h⟩ := u_ic h (by decide +kernel : pins 97 28 = some (0, 29, 1, 0, [])) (by decide)
      have ex := u_ret38 h (by decide +kernel : pins 97 29 = some (38, 30, 0, 0, []))
      exact ⟨w, by rw [ex], Or.inl ⟨⟨ok, by omega, by omega⟩, i⟩⟩
    · exact no (fun a => by have := a.2; omega) h
  · have er : r2 = some .null := er
    subst er
    have h : prun n3 97 5 [(0, .ref x), (1, .int hh), (2, .int nn)] [.null] s2 = some y := h
    obtain ⟨n4, l4, h⟩ := v_asn h (by decide +kernel : pins 97 5 = some (8, 6, 3, 0, []))
    obtain ⟨n5, l5, h⟩ := v_aln h (by decide +kernel : pins 97 6 = some (5, 7, 3, 0, [])) rfl
    obtain ⟨n6, l6, h⟩ := v_in0 h (by decide +kernel : pins 97 7 = some (18, 10, 0, 21, []))
    exact no (fun a => nok a.1) h
end HC1
def K2 (σ σ' : ps) : Prop := Kp 3 7 σ σ' ∧ Kp 3 8 σ σ'
theorem K2.rf {σ : ps} (hL : ∀ a ∈ sL σ, a < σ.1) : K2 σ σ := ⟨Kp.rf hL, Kp.rf hL⟩
theorem K2.tr {σ σ1 σ2 : ps} (h1 : K2 σ σ1) (h2 : K2 σ1 σ2) : K2 σ σ2 := ⟨h1.1.tr h2.1, h1.2.tr h2.2⟩
def mchk (M : List Nat) : Prop := ∀ c ∈ M, c < 203 ∧ kchk M 3 7 c 0 = true ∧ kchk M 3 8 c 0 = true
theorem prun_k2 {M : List Nat} (hM : mchk M) {n mi lo pc : Nat} {lv : LV} {st : List Value} {σ : ps} {x : Option Value × ps} (hm : mi < 203) (h7 : kchk M 3 7 mi lo = true) (h8 : kchk M 3 8 mi lo = true) (hl : lo ≤ pc) (hL : ∀ a ∈ sL σ, a < σ.1) (h : prun n mi pc lv st σ = some x) : K2 σ x.2 :=
  ⟨prun_kp (by decide) (fun c hc => ⟨(hM c hc).1, (hM c hc).2.1⟩) n mi lo hm h7 pc lv st σ x hl hL h, prun_kp (by decide) (fun c hc => ⟨(hM c hc).1, (hM c hc).2.2⟩) n mi lo hm h8 pc lv st σ x hl hL h⟩
theorem prun_rgk {mi out : Nat} {R kl M : List Nat} (hM : mchk M) (hm : mi < 203) (hnn : (pg mi).all (fun e => !(R.contains e.1) || (keepQ M 3 7 0 e.2 && keepQ M 3 8 0 e.2)) = true) (hall : (pg mi).all (fun e => !(R.contains e.1) || regQ R out kl e.2) = true) : ∀ (n pc : Nat) (lv : LV) (st : List Value) (σ : ps) (x : Option Value × ps), R.contains pc = true → (∀ a ∈ sL σ, a < σ.1) → prun n mi pc lv st σ = some x → ∃ m lv' st' σ', m ≤ n ∧ (∀ i ∈ kl, plk lv' i = plk lv i) ∧ K2 σ σ' ∧ prun m mi out lv' st' σ' = some x := by
  intro n
  induction n with
  | zero => intro pc lv st σ x _ _ h; cases h
  | succ n ih =>
    intro pc lv st σ x hR hL h
    unfold prun at h
    cases hp : pins mi pc with
    | none => rw [hp] at h; cases h
    | some q =>
      rw [hp] at h
      have hq : regQ R out kl q = true := by
        unfold pins at hp
        rw [if_pos hm] at hp
        exact plkI_allR _ hall pc q hR hp
      have hnq : (keepQ M 3 7 0 q && keepQ M 3 8 0 q) = true := by
        unfold pins at hp
        rw [if_pos hm] at hp
        exact plkI_allR (f := fun q => keepQ M 3 7 0 q && keepQ M 3 8 0 q) _ hnn pc q hR hp
      rw [Bool.and_eq_true] at hnq
      unfold regQ at hq
      rw [Bool.and_eq_true, Bool.and_eq_true, Bool.and_eq_true] at hq
      obtain ⟨h1, h2, h3, h4⟩ := hq
      have go : ∀ (pc' : Nat) (lv' : LV) (st' : List Value) (σ' : ps), (R.contains pc' || pc' == out) = true → (∀ i ∈ kl, plk lv' i = plk lv i) → K2 σ σ' → prun n mi pc' lv' st' σ' = some x → ∃ m lv' st' σ', m ≤ n + 1 ∧ (∀ i ∈ kl, plk lv' i = plk lv i) ∧ K2 σ σ' ∧ prun m mi out lv' st' σ' = some x := by
        intro pc' lv' st' σ' hc hlv hS h
        rw [Bool.or_eq_true, beq_iff_eq] at hc
        rcases hc with hc | hc
        · obtain ⟨m, l2, s2, σ2, a1, a2, a3, a4⟩ := ih pc' lv' st' σ' x hc hS.1.1.2 h
          exact ⟨m, l2, s2, σ2, by omega, fun i hi => (a2 i hi).trans (hlv i hi), hS.tr a3, a4⟩
        · subst hc; exact ⟨n, lv', st', σ', by omega, hlv, hS, h⟩
      simp only at h
      by_cases e36 : q.1 = 36
      · rw [if_pos e36] at h
        have hcm : q.2.2.1.toNat ∈ M := by
          have h9 := hnq.1
          unfold keepQ at h9
          rw [e36] at h9
          simp only [beq_self_eq_true, Bool.not_true, Bool.false_or, Bool.and_eq_true] at h9
          exact List.contains_iff_mem.mp h9.2.1
        have h1 : (R.contains q.2.1 || q.2.1 == out) = true := by
          rw [Bool.or_eq_true] at h1
          rcases h1 with h1 | h1
          · exact h1
          · rw [e36] at h1; exact absurd h1 (by decide)
        split at h
        · split at h
          · cases h
          · rename_i r σ1 hr
            exact go _ _ _ _ h1 (fun _ _ => rfl) (prun_k2 hM (hM _ hcm).1 (hM _ hcm).2.1 (hM _ hcm).2.2 (Nat.zero_le _) hL hr) h
        · cases h
      · rw [if_neg e36] at h
        split at h
        · rename_i r hr
          exfalso
          rw [Bool.not_eq_true', decide_eq_false_iff_not] at h3
          rw [pret_none h3] at hr
          cases hr
        · split at h
          · cases h
          · rename_i pc' lv' st' σ' hs
            obtain ⟨n1, n2, n3, n4⟩ := pst_nx hs
            refine go pc' lv' st' σ' ?_ ?_ ⟨pst_kp (by decide) hL hnq.1 hs, pst_kp (by decide) hL hnq.2 hs⟩ h
            · cases hb : brL q with
              | false =>
                rw [n1 hb]
                rw [Bool.or_eq_true] at h1
                rcases h1 with h1 | h1
                · exact h1
                · exfalso
                  unfold brL at hb
                  simp only [Bool.or_eq_false_iff] at hb
                  rw [hb.2.2.2.2.1] at h1
                  cases h1
              | true =>
                rw [hb] at h2
                simp only [Bool.not_true, Bool.false_or, Bool.and_eq_true, Bool.not_eq_true', beq_eq_false_iff_ne] at h2
                rcases n2 hb with e | e | e
                · exact absurd e h2.2
                · rw [e]
                  rw [Bool.or_eq_true] at h1
                  rcases h1 with h1 | h1
                  · exact h1
                  · have e20 : q.1 = 20 := by rw [beq_iff_eq] at h1; exact h1
                    obtain ⟨op, nx, a, b, ts⟩ := q
                    have e20 : op = 20 := e20
                    subst e20
                    cases hs
                    have e : b.toNat = nx := e
                    have h2 := h2.1
                    show (R.contains nx || nx == out) = true
                    rw [← e]
                    exact h2
                · rw [e]; exact h2.1
            · intro i hi
              cases hb : stL q with
              | false => rw [n3 hb]
              | true =>
                rw [hb] at h4
                simp only [Bool.not_true, Bool.false_or] at h4
                have := List.all_eq_true.mp h4 i hi
                simp only [Bool.and_eq_true, Bool.not_eq_true', beq_eq_false_iff_ne] at this
                obtain ⟨v, hv | ⟨_, hv⟩⟩ := n4 hb
                · rw [hv]; exact plk_pst1 this.1 this.2.1
                · rw [hv]; exact plk_pst2 this.1 this.2.1 this.2.2
section HC2
variable {n x hr : Nat} {ha : Nat → Nat} {σ : ps} {y : Option Value × ps}
theorem off_M : mchk [44, 45, 47, 48, 49, 50, 51, 52, 54, 120, 121, 126] := by unfold mchk; decide +kernel
/-- the hosts' kinds -/
def HKd (ha : Nat → Nat) (σ : ps) : Prop := ∀ i, i < 8 → ha i ∈ sL σ ∧ sK σ (ha i) = 3
theorem pc_of {hh pp : Int32} (C : HCls hr ha x σ) (K : HKd ha σ) (hL : ∀ a ∈ sL σ, a < σ.1) (run : prun n 92 0 (lv_args 0 [.ref x, .int hh, .int pp]) [] σ = some y) : ∃ w : Int32, y.1 = some (.int w) ∧ ((offOK (cO σ ha) hh ∧ w.toInt = 1 ∧ (∀ i, i < 8 → ¬ i = hh.toNatClampNeg → sV y.2 (ha i) 7 = sV σ (ha i) 7 ∧ sV y.2 (ha i) 8 = sV σ (ha i) 8) ∧ sV y.2 (ha hh.toNatClampNeg) 7 = .int 0 ∧ sV y.2 (ha hh.toNatClampNeg) 8 = sV σ (ha hh.toNatClampNeg) 8) ∨ ((¬ offOK (cO σ ha) hh) ∧ w.toInt = 0 ∧ y.2 = σ)) := by
  have hr0 : prun n 92 0 [(0, .ref x), (1, .int hh), (2, .int pp)] [] σ = some y := run
  obtain ⟨n1, l1, h⟩ := v_al hr0 (by decide +kernel : pins 92 0 = some (5, 1, 0, 0, [])) (v := x) rfl
  obtain ⟨n2, l2, h⟩ := v_il h (by decide +kernel : pins 92 1 = some (3, 2, 1, 0, [])) (v := hh) rfl
  obtain ⟨n3, r2, s2, l3, h2, h⟩ := pinv_call h (by decide +kernel : pins 92 2 = some (36, 5, 99, 0, [2]))
  have h2 : prun n3 99 0 (lv_args 0 [.ref x, .int hh]) [] σ = some (r2, s2) := h2
  obtain ⟨es, z⟩ := pc_hto C h2
  have es : s2 = σ := es
  subst es
  rcases z with ⟨ok, er⟩ | ⟨nok, er⟩
  · have er : r2 = some (.ref (ha hh.toNatClampNeg)) := er
    subst er
    have cn : (hh.toNatClampNeg : Int) = hh.toInt := n_clamp ok.1.1
    have l8 : hh.toNatClampNeg < 8 := by have := ok.1; omega
    have h : prun n3 92 5 [(0, .ref x), (1, .int hh), (2, .int pp)] [.ref (ha hh.toNatClampNeg)] s2 = some y := h
    obtain ⟨n4, l4, h⟩ := v_as h (by decide +kernel : pins 92 5 = some (8, 6, 3, 0, []))
    have h : prun n4 92 6 [(3, .ref (ha hh.toNatClampNeg)), (0, .ref x), (1, .int hh), (2, .int pp)] [] s2 = some y := h
    obtain ⟨n5, l5, h⟩ := v_al h (by decide +kernel : pins 92 6 = some (5, 7, 3, 0, [])) (v := ha hh.toNatClampNeg) rfl
    obtain ⟨n6, l6, h⟩ := v_nn1 h (by decide +kernel : pins 92 7 = some (19, 10, 0, 12, []))
    have h : prun n6 92 12 [(3, .ref (ha hh.toNatClampNeg)), (0, .ref x), (1, .int hh), (2, .int pp)] [] s2 = some y := h
    obtain ⟨k0, lv', st', σ1, _, hkl, kp, h⟩ := prun_rgk (mi := 92) (out := 33) (R := [12, 13, 16, 17, 20, 23, 24, 27, 28, 29, 30]) (kl := [3]) off_M (by decide) (by decide +kernel) (by decide +kernel) _ _ _ _ _ _ (by decide) hL h
    have e3 : plk lv' 3 = some (.ref (ha hh.toNatClampNeg)) := (hkl 3 (by decide)).trans rfl
    obtain ⟨k1, j1, h⟩ := v_al h (by decide +kernel : pins 92 33 = some (5, 34, 3, 0, [])) (v := ha hh.toNatClampNeg) e3
    obtain ⟨k2, w34, j2, ⟨e34, i34⟩, h⟩ := u_ic h (by decide +kernel : pins 92 34 = some (0, 35, 0, 0, [])) (by decide)
    obtain ⟨k3, j3, h⟩ := v_put h (by decide +kernel : pins 92 35 = some (23, 38, 3, 7, []))
    obtain ⟨k4, w, j4, ⟨e, i⟩, h⟩ := u_ic h (by decide +kernel : pins 92 38 = some (0, 39, 1, 0, [])) (by decide)
    have ex := ret38_any h (by decide +kernel : pins 92 39 = some (38, 40, 0, 0, []))
    refine ⟨w, by rw [ex], Or.inl ⟨ok, i, fun i hi ne => ?_, ?_, ?_⟩⟩
    · have na : ¬ ha i = ha hh.toNatClampNeg := fun e => ne (C.2.2.1 i _ hi l8 e)
      rw [ex]
      exact ⟨by rw [sPut_ne _ _ na]; exact kp.1.2 _ (K i hi).1 (K i hi).2, by rw [sPut_ne _ _ na]; exact kp.2.2 _ (K i hi).1 (K i hi).2⟩
    · rw [ex, sPut_self, e34]; rfl
    · rw [ex, sPut_self]
      exact kp.2.2 _ (K _ l8).1 (K _ l8).2
  · have er : r2 = some .null := er
    subst er
    have h : prun n3 92 5 [(0, .ref x), (1, .int hh), (2, .int pp)] [.null] s2 = some y := h
    obtain ⟨n4, l4, h⟩ := v_asn h (by decide +kernel : pins 92 5 = some (8, 6, 3, 0, []))
    obtain ⟨n5, l5, h⟩ := v_aln h (by decide +kernel : pins 92 6 = some (5, 7, 3, 0, [])) rfl
    obtain ⟨n6, l6, h⟩ := v_nn0 h (by decide +kernel : pins 92 7 = some (19, 10, 0, 12, []))
    obtain ⟨k1, w, j1, ⟨e, i⟩, h⟩ := u_ic h (by decide +kernel : pins 92 10 = some (0, 11, 0, 0, [])) (by decide)
    have ex := u_ret38 h (by decide +kernel : pins 92 11 = some (38, 12, 0, 0, []))
    exact ⟨w, by rw [ex], Or.inr ⟨nok, i, by rw [ex]⟩⟩
theorem sta_M : mchk [1, 2, 36] := by unfold mchk; decide +kernel
theorem pc_sta {a : Nat} {i : Int32} {tv : Value} (am : a ∈ sL σ) (ak : sK σ a = 3) (hL : ∀ a ∈ sL σ, a < σ.1) (run : prun n 26 0 (lv_args 0 [.ref a, .int i, tv]) [] σ = some y) : sV y.2 a 7 = .int 1 ∧ sV y.2 a 8 = .int i ∧ ∀ b, b ∈ sL σ → sK σ b = 3 → ¬ b = a → sV y.2 b 7 = sV σ b 7 ∧ sV y.2 b 8 = sV σ b 8 := by
  have h : prun n 26 0 [(0, .ref a), (1, .int i), (2, tv)] [] σ = some y := run
  obtain ⟨n1, l1, h⟩ := v_al h (by decide +kernel : pins 26 0 = some (5, 1, 0, 0, [])) (v := a) rfl
  obtain ⟨n2, w1, l2, ⟨e1, i1⟩, h⟩ := u_ic h (by decide +kernel : pins 26 1 = some (0, 2, 1, 0, [])) (by decide)
  obtain ⟨n3, l3, h⟩ := v_put h (by decide +kernel : pins 26 2 = some (23, 5, 3, 7, []))
  obtain ⟨n4, l4, h⟩ := v_al h (by decide +kernel : pins 26 5 = some (5, 6, 0, 0, [])) (v := a) rfl
  obtain ⟨n5, l5, h⟩ := v_il h (by decide +kernel : pins 26 6 = some (3, 7, 1, 0, [])) (v := i) rfl
  obtain ⟨n6, l6, h⟩ := v_put h (by decide +kernel : pins 26 7 = some (23, 10, 3, 8, []))
  have kp := prun_k2 sta_M (lo := 10) (by decide) (by decide +kernel) (by decide +kernel) (Nat.le_refl 10) (show ∀ b ∈ sL (sPut (sPut σ a (7 : Int).toNat (.int w1)) a (8 : Int).toNat (.int i)), b < (sPut (sPut σ a (7 : Int).toNat (.int w1)) a (8 : Int).toNat (.int i)).1 from hL) h
  refine ⟨?_, ?_, fun b hb hk ne => ⟨?_, ?_⟩⟩
  · rw [kp.1.2 a am ak, sPut_self]
    show (if (7 : Nat) = 8 then _ else sV (sPut σ a 7 (.int w1)) a 7) = _
    rw [if_neg (by decide), sPut_self, e1]; rfl
  · rw [kp.2.2 a am ak, sPut_self]; rfl
  · rw [kp.1.2 b hb hk, sPut_ne _ _ ne, sPut_ne _ _ ne]
  · rw [kp.2.2 b hb hk, sPut_ne _ _ ne, sPut_ne _ _ ne]
theorem pc_con_l {hh i : Int32} (C : HCls hr ha x σ) (K : HKd ha σ) (hL : ∀ a ∈ sL σ, a < σ.1) (h0 : 0 ≤ hh.toInt ∧ hh.toInt ≤ 7) (hi : 1 ≤ i.toInt ∧ i.toInt ≤ 65535) (f0 : (cO σ ha hh.toNatClampNeg).toInt = 0) : ∀ (n : Nat) (c : Int32), (0 ≤ c.toInt ∧ c.toInt ≤ 8) → (∀ k : Nat, (k : Int) < c.toInt → ¬ (¬ (cO σ ha k).toInt = 0 ∧ (cI σ ha k).toInt = i.toInt)) → prun n 91 37 [(3, .int c), (0, .ref x), (1, .int hh), (2, .int i)] [] σ = some y → ∃ w : Int32, y.1 = some (.int w) ∧ ((onOK (cO σ ha) (cI σ ha) hh i ∧ w.toInt = 1 ∧ (∀ k, k < 8 → ¬ k = hh.toNatClampNeg → sV y.2 (ha k) 7 = sV σ (ha k) 7 ∧ sV y.2 (ha k) 8 = sV σ (ha k) 8) ∧ sV y.2 (ha hh.toNatClampNeg) 7 = .int 1 ∧ sV y.2 (ha hh.toNatClampNeg) 8 = .int i) ∨ ((¬ onOK (cO σ ha) (cI σ ha) hh i) ∧ w.toInt = 0 ∧ y.2 = σ)) := by
  obtain ⟨d1, d2, d3⟩ := C.at h0
  have cnh : (hh.toNatClampNeg : Int) = hh.toInt := n_clamp h0.1
  have l8 : hh.toNatClampNeg < 8 := by omega
  intro n
  induction n using Nat.strongRecOn with
  | ind n ih =>
    intro c hc inv h
    have cn : (c.toNatClampNeg : Int) = c.toInt := n_clamp hc.1
    obtain ⟨n1, l1, h⟩ := v_il h (by decide +kernel : pins 91 37 = some (3, 38, 3, 0, [])) (v := c) rfl
    obtain ⟨n2, w38, l2, ⟨e38, i38⟩, h⟩ := u_ic h (by decide +kernel : pins 91 38 = some (0, 40, 8, 0, [])) (by decide)
    obtain ⟨n3, l3, ⟨c40, h⟩ | ⟨c40, h⟩⟩ := u_ic3 h (by decide +kernel : pins 91 40 = some (17, 43, 3, ((76 : Nat) : Int), []))
    · obtain ⟨n4, l4, h⟩ := v_al h (by decide +kernel : pins 91 76 = some (5, 77, 0, 0, [])) (v := x) rfl
      obtain ⟨n5, l5, _, h⟩ := v_get h (by decide +kernel : pins 91 77 = some (22, 80, 12, 0, []))
      rw [show sV σ x (0 : Int).toNat = .ref hr from C.1] at h
      obtain ⟨n6, l6, h⟩ := v_il h (by decide +kernel : pins 91 80 = some (3, 81, 1, 0, [])) (v := hh) rfl
      obtain ⟨n7, l7, h⟩ := v_aald h (by decide +kernel : pins 91 81 = some (27, 82, 0, 0, [])) d1
      obtain ⟨n8, l8', h⟩ := v_il h (by decide +kernel : pins 91 82 = some (3, 83, 2, 0, [])) (v := i) rfl
      obtain ⟨n9, l9, h⟩ := v_al h (by decide +kernel : pins 91 83 = some (5, 84, 0, 0, [])) (v := x) rfl
      obtain ⟨n10, l10, _, h⟩ := v_get h (by decide +kernel : pins 91 84 = some (22, 87, 12, 9, []))
      obtain ⟨n11, r87, s87, l11, h87, h⟩ := pinv_call h (by decide +kernel : pins 91 87 = some (36, 90, 26, 0, [3]))
      have h87 : prun n11 26 0 (lv_args 0 [.ref (ha hh.toNatClampNeg), .int i, sV σ x (9 : Int).toNat]) [] σ = some (r87, s87) := h87
      obtain ⟨p1, p2, p3⟩ := pc_sta (K _ l8).1 (K _ l8).2 hL h87
      obtain ⟨n12, w, l12, ⟨e, iw⟩, h⟩ := u_ic h (by decide +kernel : pins 91 90 = some (0, 91, 1, 0, [])) (by decide)
      have ex := ret38_any h (by decide +kernel : pins 91 91 = some (38, 92, 0, 0, []))
      refine ⟨w, by rw [ex], Or.inl ⟨⟨h0, hi, f0, fun k hk => inv k (by omega)⟩, iw, fun k hk ne => ?_, ?_, ?_⟩⟩
      · rw [ex]; exact p3 _ (K k hk).1 (K k hk).2 (fun e => ne (C.2.2.1 k _ hk l8 e))
      · rw [ex]; exact p1
      · rw [ex]; exact p2
    · have h1 : 0 ≤ c.toInt ∧ c.toInt ≤ 7 := by omega
      obtain ⟨g1, g2, g3⟩ := C.at h1
      have nx : ∀ {k : Nat}, k < n → (¬ (¬ (cO σ ha c.toNatClampNeg).toInt = 0 ∧ (cI σ ha c.toNatClampNeg).toInt = i.toInt)) → prun k 91 70 [(3, .int c), (0, .ref x), (1, .int hh), (2, .int i)] [] σ = some y → ∃ w : Int32, y.1 = some (.int w) ∧ ((onOK (cO σ ha) (cI σ ha) hh i ∧ w.toInt = 1 ∧ (∀ k, k < 8 → ¬ k = hh.toNatClampNeg → sV y.2 (ha k) 7 = sV σ (ha k) 7 ∧ sV y.2 (ha k) 8 = sV σ (ha k) 8) ∧ sV y.2 (ha hh.toNatClampNeg) 7 = .int 1 ∧ sV y.2 (ha hh.toNatClampNeg) 8 = .int i) ∨ ((¬ onOK (cO σ ha) (cI σ ha) hh i) ∧ w.toInt = 0 ∧ y.2 = σ)) := by
        intro k hk no h
        obtain ⟨k1, w70, j1, e70, h⟩ := u_inc h (by decide +kernel : pins 91 70 = some (9, 73, 3, 1, [])) (v := c) rfl
        have h : prun k1 91 73 [(3, .int w70), (0, .ref x), (1, .int hh), (2, .int i)] [] σ = some y := h
        obtain ⟨k2, j2, h⟩ := u_go h (by decide +kernel : pins 91 73 = some (20, 76, 0, ((37 : Nat) : Int), []))
        have q : w70.toInt = c.toInt + 1 := addc e70 (by decide : (Int32.ofInt 1).toInt = 1) (by omega) (by omega) (by decide) (by decide)
        refine ih k2 (by omega) w70 ⟨by omega, by omega⟩ (fun k hk a => ?_) h
        by_cases e : k = c.toNatClampNeg
        · rw [e] at a; exact no a
        · exact inv k (by omega) a
      obtain ⟨n4, l4, h⟩ := v_al h (by decide +kernel : pins 91 43 = some (5, 44, 0, 0, [])) (v := x) rfl
      obtain ⟨n5, l5, _, h⟩ := v_get h (by decide +kernel : pins 91 44 = some (22, 47, 12, 0, []))
      rw [show sV σ x (0 : Int).toNat = .ref hr from C.1] at h
      obtain ⟨n6, l6, h⟩ := v_il h (by decide +kernel : pins 91 47 = some (3, 48, 3, 0, [])) (v := c) rfl
      obtain ⟨n7, l7, h⟩ := v_aald h (by decide +kernel : pins 91 48 = some (27, 49, 0, 0, [])) g1
      obtain ⟨n8, l8', _, h⟩ := v_get h (by decide +kernel : pins 91 49 = some (22, 52, 3, 7, []))
      rw [show sV σ (ha c.toNatClampNeg) (7 : Int).toNat = .int (cO σ ha c.toNatClampNeg) from g2] at h
      obtain ⟨n9, l9, ⟨c52, h⟩ | ⟨c52, h⟩⟩ := u_if0 h (by decide +kernel : pins 91 52 = some (16, 55, 0, ((70 : Nat) : Int), []))
      · exact nx (by omega) (fun a => a.1 c52) h
      obtain ⟨n10, l10, h⟩ := v_al h (by decide +kernel : pins 91 55 = some (5, 56, 0, 0, [])) (v := x) rfl
      obtain ⟨n11, l11, _, h⟩ := v_get h (by decide +kernel : pins 91 56 = some (22, 59, 12, 0, []))
      rw [show sV σ x (0 : Int).toNat = .ref hr from C.1] at h
      obtain ⟨n12, l12, h⟩ := v_il h (by decide +kernel : pins 91 59 = some (3, 60, 3, 0, [])) (v := c) rfl
      obtain ⟨n13, l13, h⟩ := v_aald h (by decide +kernel : pins 91 60 = some (27, 61, 0, 0, [])) g1
      obtain ⟨n14, l14, _, h⟩ := v_get h (by decide +kernel : pins 91 61 = some (22, 64, 3, 8, []))
      rw [show sV σ (ha c.toNatClampNeg) (8 : Int).toNat = .int (cI σ ha c.toNatClampNeg) from g3] at h
      obtain ⟨n15, l15, h⟩ := v_il h (by decide +kernel : pins 91 64 = some (3, 65, 2, 0, [])) (v := i) rfl
      obtain ⟨n16, l16, ⟨c65, h⟩ | ⟨c65, h⟩⟩ := u_ic1 h (by decide +kernel : pins 91 65 = some (17, 68, 1, ((70 : Nat) : Int), []))
      · exact nx (by omega) (fun a => c65 a.2) h
      obtain ⟨n17, w, l17, ⟨e, iw⟩, h⟩ := u_ic h (by decide +kernel : pins 91 68 = some (0, 69, 0, 0, [])) (by decide)
      have ex := u_ret38 h (by decide +kernel : pins 91 69 = some (38, 70, 0, 0, []))
      exact ⟨w, by rw [ex], Or.inr ⟨fun a => a.2.2.2 c.toNatClampNeg (by omega) ⟨c52, c65⟩, iw, by rw [ex]⟩⟩
theorem pc_con {hh i : Int32} (C : HCls hr ha x σ) (K : HKd ha σ) (hL : ∀ a ∈ sL σ, a < σ.1) (run : prun n 91 0 (lv_args 0 [.ref x, .int hh, .int i]) [] σ = some y) : ∃ w : Int32, y.1 = some (.int w) ∧ ((onOK (cO σ ha) (cI σ ha) hh i ∧ w.toInt = 1 ∧ (∀ k, k < 8 → ¬ k = hh.toNatClampNeg → sV y.2 (ha k) 7 = sV σ (ha k) 7 ∧ sV y.2 (ha k) 8 = sV σ (ha k) 8) ∧ sV y.2 (ha hh.toNatClampNeg) 7 = .int 1 ∧ sV y.2 (ha hh.toNatClampNeg) 8 = .int i) ∨ ((¬ onOK (cO σ ha) (cI σ ha) hh i) ∧ w.toInt = 0 ∧ y.2 = σ)) := by
  have h : prun n 91 0 [(0, .ref x), (1, .int hh), (2, .int i)] [] σ = some y := run
  have no : ∀ {k : Nat}, (¬ onOK (cO σ ha) (cI σ ha) hh i) → prun k 91 33 [(0, .ref x), (1, .int hh), (2, .int i)] [] σ = some y → ∃ w : Int32, y.1 = some (.int w) ∧ ((onOK (cO σ ha) (cI σ ha) hh i ∧ w.toInt = 1 ∧ (∀ k, k < 8 → ¬ k = hh.toNatClampNeg → sV y.2 (ha k) 7 = sV σ (ha k) 7 ∧ sV y.2 (ha k) 8 = sV σ (ha k) 8) ∧ sV y.2 (ha hh.toNatClampNeg) 7 = .int 1 ∧ sV y.2 (ha hh.toNatClampNeg) 8 = .int i) ∨ ((¬ onOK (cO σ ha) (cI σ ha) hh i) ∧ w.toInt = 0 ∧ y.2 = σ)) := by
    intro k nok h
    obtain ⟨k1, w, j1, ⟨e, iw⟩, h⟩ := u_ic h (by decide +kernel : pins 91 33 = some (0, 34, 0, 0, [])) (by decide)
    have ex := u_ret38 h (by decide +kernel : pins 91 34 = some (38, 35, 0, 0, []))
    exact ⟨w, by rw [ex], Or.inr ⟨nok, iw, by rw [ex]⟩⟩
  obtain ⟨n1, l1, h⟩ := v_il h (by decide +kernel : pins 91 0 = some (3, 1, 1, 0, [])) (v := hh) rfl
  obtain ⟨n2, l2, ⟨c1, h⟩ | ⟨c1, h⟩⟩ := u_if2 h (by decide +kernel : pins 91 1 = some (16, 4, 2, ((33 : Nat) : Int), []))
  · exact no (fun a => by have := a.1; omega) h
  obtain ⟨n3, l3, h⟩ := v_il h (by decide +kernel : pins 91 4 = some (3, 5, 1, 0, [])) (v := hh) rfl
  obtain ⟨n4, w5, l4, ⟨e5, i5⟩, h⟩ := u_ic h (by decide +kernel : pins 91 5 = some (0, 7, 8, 0, [])) (by decide)
  obtain ⟨n5, l5, ⟨c7, h⟩ | ⟨c7, h⟩⟩ := u_ic3 h (by decide +kernel : pins 91 7 = some (17, 10, 3, ((33 : Nat) : Int), []))
  · exact no (fun a => by have := a.1; omega) h
  obtain ⟨n6, l6, h⟩ := v_il h (by decide +kernel : pins 91 10 = some (3, 11, 2, 0, [])) (v := i) rfl
  obtain ⟨n7, w11, l7, ⟨e11, i11⟩, h⟩ := u_ic h (by decide +kernel : pins 91 11 = some (0, 12, 1, 0, [])) (by decide)
  obtain ⟨n8, l8, ⟨c12, h⟩ | ⟨c12, h⟩⟩ := u_ic2 h (by decide +kernel : pins 91 12 = some (17, 15, 2, ((33 : Nat) : Int), []))
  · exact no (fun a => by have := a.2.1; omega) h
  obtain ⟨n9, l9, h⟩ := v_il h (by decide +kernel : pins 91 15 = some (3, 16, 2, 0, [])) (v := i) rfl
  obtain ⟨n10, w16, l10, ⟨e16, i16⟩, h⟩ := u_ic h (by decide +kernel : pins 91 16 = some (0, 18, 65535, 0, [])) (by decide)
  obtain ⟨n11, l11, ⟨c18, h⟩ | ⟨c18, h⟩⟩ := u_ic4 h (by decide +kernel : pins 91 18 = some (17, 21, 4, ((33 : Nat) : Int), []))
  · exact no (fun a => by have := a.2.1; omega) h
  have h0 : 0 ≤ hh.toInt ∧ hh.toInt ≤ 7 := by omega
  obtain ⟨d1, d2, d3⟩ := C.at h0
  obtain ⟨n12, l12, h⟩ := v_al h (by decide +kernel : pins 91 21 = some (5, 22, 0, 0, [])) (v := x) rfl
  obtain ⟨n13, l13, _, h⟩ := v_get h (by decide +kernel : pins 91 22 = some (22, 25, 12, 0, []))
  rw [show sV σ x (0 : Int).toNat = .ref hr from C.1] at h
  obtain ⟨n14, l14, h⟩ := v_il h (by decide +kernel : pins 91 25 = some (3, 26, 1, 0, [])) (v := hh) rfl
  obtain ⟨n15, l15, h⟩ := v_aald h (by decide +kernel : pins 91 26 = some (27, 27, 0, 0, [])) d1
  obtain ⟨n16, l16, _, h⟩ := v_get h (by decide +kernel : pins 91 27 = some (22, 30, 3, 7, []))
  rw [show sV σ (ha hh.toNatClampNeg) (7 : Int).toNat = .int (cO σ ha hh.toNatClampNeg) from d2] at h
  obtain ⟨n17, l17, ⟨c30, h⟩ | ⟨c30, h⟩⟩ := u_if0 h (by decide +kernel : pins 91 30 = some (16, 33, 0, ((35 : Nat) : Int), []))
  · obtain ⟨n18, w35, l18, ⟨e35, i35⟩, h⟩ := u_ic h (by decide +kernel : pins 91 35 = some (0, 36, 0, 0, [])) (by decide)
    obtain ⟨n19, l19, h⟩ := v_is h (by decide +kernel : pins 91 36 = some (6, 37, 3, 0, []))
    exact pc_con_l C K hL h0 (by omega) c30 n19 w35 ⟨by omega, by omega⟩ (fun k hk => by omega) h
  · exact no (fun a => c30 a.2.2.1) h
end HC2
