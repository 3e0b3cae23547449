theorem pinv {n mi pc : Nat} {lv : LV} {st : List Value} {σ : ps} {x : Option Value × ps} {q : PI} (h : prun n mi pc lv st σ = some x) (hq : pins mi pc = some q) (h36 : ¬ q.1 = 36) (hr : ¬ (37 ≤ q.1 ∧ q.1 ≤ 40)) : ∃ m pc' lv' st' σ', m < n ∧ pst q lv st σ = some (pc', lv', st', σ') ∧ prun m mi pc' lv' st' σ' = some x := by
  cases n with
  | zero => cases h
  | succ n =>
    unfold prun at h
    rw [hq] at h
    simp only at h
    rw [if_neg h36, pret_none hr] at h
    simp only at h
    split at h
    · cases h
    · rename_i pc' lv' st' σ' h1
      exact ⟨n, pc', lv', st', σ', Nat.lt_succ_self n, h1, h⟩
theorem pinv_call {n mi pc : Nat} {lv : LV} {st : List Value} {σ : ps} {x : Option Value × ps} {nx : Nat} {k mode : Int} {ts : List Nat} (h : prun n mi pc lv st σ = some x) (hq : pins mi pc = some (36, nx, k, mode, ts)) : ∃ m r σ1, m < n ∧ prun m k.toNat 0 (lv_args 0 (st.take (np k.toNat)).reverse) [] σ = some (r, σ1) ∧ prun m mi nx lv (r.toList ++ st.drop (np k.toNat)) σ1 = some x := by
  cases n with
  | zero => cases h
  | succ n =>
    unfold prun at h
    rw [hq] at h
    simp only at h
    rw [if_pos trivial] at h
    split at h
    · split at h
      · cases h
      · rename_i r σ1 h1
        exact ⟨n, r, σ1, Nat.lt_succ_self n, h1, h⟩
    · cases h
theorem pinv_ret {n mi pc : Nat} {lv : LV} {st : List Value} {σ : ps} {x : Option Value × ps} {q : PI} {r : Option Value} (h : prun n mi pc lv st σ = some x) (hq : pins mi pc = some q) (h36 : ¬ q.1 = 36) (hr : pret (rt mi) q st = some r) : x = (r, σ) := by
  cases n with
  | zero => cases h
  | succ n =>
    unfold prun at h
    rw [hq] at h
    simp only at h
    rw [if_neg h36, hr] at h
    exact (Option.some.inj h).symm
section PV
variable {n mi pc nx : Nat} {lv : LV} {r : List Value} {σ : ps} {x : Option Value × ps} {a b : Int} {ts : List Nat}
theorem v_ic  (h : prun n mi pc lv r σ = some x) (hq : pins mi pc = some (0, nx, a, b, ts))  : ∃ m, m < n ∧ prun m mi nx lv (.int (Int32.ofInt a) :: r) σ = some x := by
  obtain ⟨m, pc', lv', st', σ', hm, h1, h2⟩ := pinv h hq (fun e => absurd (show (0 : Nat) = 36 from e) (by decide)) (fun e => absurd (show 37 ≤ (0 : Nat) ∧ (0 : Nat) ≤ 40 from e) (by decide))
  have h1 : some (nx, lv, .int (Int32.ofInt a) :: r, σ) = some (pc', lv', st', σ') := h1
  cases h1
  exact ⟨m, hm, h2⟩
theorem v_lc  (h : prun n mi pc lv r σ = some x) (hq : pins mi pc = some (1, nx, a, b, ts))  : ∃ m, m < n ∧ prun m mi nx lv (.long (Int64.ofInt a) :: r) σ = some x := by
  obtain ⟨m, pc', lv', st', σ', hm, h1, h2⟩ := pinv h hq (fun e => absurd (show (1 : Nat) = 36 from e) (by decide)) (fun e => absurd (show 37 ≤ (1 : Nat) ∧ (1 : Nat) ≤ 40 from e) (by decide))
  have h1 : some (nx, lv, .long (Int64.ofInt a) :: r, σ) = some (pc', lv', st', σ') := h1
  cases h1
  exact ⟨m, hm, h2⟩
theorem v_il {v : Int32} (h : prun n mi pc lv r σ = some x) (hq : pins mi pc = some (3, nx, a, b, ts)) (hv : plk lv a.toNat = some (.int v)) : ∃ m, m < n ∧ prun m mi nx lv (.int v :: r) σ = some x := by
  obtain ⟨m, pc', lv', st', σ', hm, h1, h2⟩ := pinv h hq (fun e => absurd (show (3 : Nat) = 36 from e) (by decide)) (fun e => absurd (show 37 ≤ (3 : Nat) ∧ (3 : Nat) ≤ 40 from e) (by decide))
  have h1 : f_iload (3, nx, a, b, ts) lv r σ = some (pc', lv', st', σ') := h1
  unfold f_iload at h1
  simp only at h1
  rw [hv] at h1
  cases h1
  exact ⟨m, hm, h2⟩
theorem v_ll {v : Int64} (h : prun n mi pc lv r σ = some x) (hq : pins mi pc = some (4, nx, a, b, ts)) (hv : plk lv a.toNat = some (.long v)) : ∃ m, m < n ∧ prun m mi nx lv (.long v :: r) σ = some x := by
  obtain ⟨m, pc', lv', st', σ', hm, h1, h2⟩ := pinv h hq (fun e => absurd (show (4 : Nat) = 36 from e) (by decide)) (fun e => absurd (show 37 ≤ (4 : Nat) ∧ (4 : Nat) ≤ 40 from e) (by decide))
  have h1 : f_lload (4, nx, a, b, ts) lv r σ = some (pc', lv', st', σ') := h1
  unfold f_lload at h1
  simp only at h1
  rw [hv] at h1
  cases h1
  exact ⟨m, hm, h2⟩
theorem v_al {v : Nat} (h : prun n mi pc lv r σ = some x) (hq : pins mi pc = some (5, nx, a, b, ts)) (hv : plk lv a.toNat = some (.ref v)) : ∃ m, m < n ∧ prun m mi nx lv (.ref v :: r) σ = some x := by
  obtain ⟨m, pc', lv', st', σ', hm, h1, h2⟩ := pinv h hq (fun e => absurd (show (5 : Nat) = 36 from e) (by decide)) (fun e => absurd (show 37 ≤ (5 : Nat) ∧ (5 : Nat) ≤ 40 from e) (by decide))
  have h1 : f_aload (5, nx, a, b, ts) lv r σ = some (pc', lv', st', σ') := h1
  unfold f_aload at h1
  simp only at h1
  rw [hv] at h1
  cases h1
  exact ⟨m, hm, h2⟩
theorem v_is {v : Int32} (h : prun n mi pc lv (.int v :: r) σ = some x) (hq : pins mi pc = some (6, nx, a, b, ts))  : ∃ m, m < n ∧ prun m mi nx (pst1 lv a.toNat (.int v)) r σ = some x := by
  obtain ⟨m, pc', lv', st', σ', hm, h1, h2⟩ := pinv h hq (fun e => absurd (show (6 : Nat) = 36 from e) (by decide)) (fun e => absurd (show 37 ≤ (6 : Nat) ∧ (6 : Nat) ≤ 40 from e) (by decide))
  have h1 : f_istore (6, nx, a, b, ts) lv (.int v :: r) σ = some (pc', lv', st', σ') := h1
  unfold f_istore at h1
  simp only at h1
  cases h1
  exact ⟨m, hm, h2⟩
theorem v_ls {v : Int64} (h : prun n mi pc lv (.long v :: r) σ = some x) (hq : pins mi pc = some (7, nx, a, b, ts))  : ∃ m, m < n ∧ prun m mi nx (pst2 lv a.toNat (.long v)) r σ = some x := by
  obtain ⟨m, pc', lv', st', σ', hm, h1, h2⟩ := pinv h hq (fun e => absurd (show (7 : Nat) = 36 from e) (by decide)) (fun e => absurd (show 37 ≤ (7 : Nat) ∧ (7 : Nat) ≤ 40 from e) (by decide))
  have h1 : f_lstore (7, nx, a, b, ts) lv (.long v :: r) σ = some (pc', lv', st', σ') := h1
  unfold f_lstore at h1
  simp only at h1
  cases h1
  exact ⟨m, hm, h2⟩
theorem v_as {v : Nat} (h : prun n mi pc lv (.ref v :: r) σ = some x) (hq : pins mi pc = some (8, nx, a, b, ts))  : ∃ m, m < n ∧ prun m mi nx (pst1 lv a.toNat (.ref v)) r σ = some x := by
  obtain ⟨m, pc', lv', st', σ', hm, h1, h2⟩ := pinv h hq (fun e => absurd (show (8 : Nat) = 36 from e) (by decide)) (fun e => absurd (show 37 ≤ (8 : Nat) ∧ (8 : Nat) ≤ 40 from e) (by decide))
  have h1 : f_astore (8, nx, a, b, ts) lv (.ref v :: r) σ = some (pc', lv', st', σ') := h1
  unfold f_astore at h1
  simp only at h1
  cases h1
  exact ⟨m, hm, h2⟩
theorem v_inc {v : Int32} (h : prun n mi pc lv r σ = some x) (hq : pins mi pc = some (9, nx, a, b, ts)) (hv : plk lv a.toNat = some (.int v)) : ∃ m, m < n ∧ prun m mi nx (pst1 lv a.toNat (.int (v + Int32.ofInt b))) r σ = some x := by
  obtain ⟨m, pc', lv', st', σ', hm, h1, h2⟩ := pinv h hq (fun e => absurd (show (9 : Nat) = 36 from e) (by decide)) (fun e => absurd (show 37 ≤ (9 : Nat) ∧ (9 : Nat) ≤ 40 from e) (by decide))
  have h1 : f_iinc (9, nx, a, b, ts) lv r σ = some (pc', lv', st', σ') := h1
  unfold f_iinc at h1
  simp only at h1
  rw [hv] at h1
  cases h1
  exact ⟨m, hm, h2⟩
theorem v_iop {u v : Int32} (h : prun n mi pc lv (.int v :: .int u :: r) σ = some x) (hq : pins mi pc = some (10, nx, a, b, ts))  : ∃ m w, m < n ∧ iop a u v = some w ∧ prun m mi nx lv (.int w :: r) σ = some x := by
  obtain ⟨m, pc', lv', st', σ', hm, h1, h2⟩ := pinv h hq (fun e => absurd (show (10 : Nat) = 36 from e) (by decide)) (fun e => absurd (show 37 ≤ (10 : Nat) ∧ (10 : Nat) ≤ 40 from e) (by decide))
  have h1 : f_iop (10, nx, a, b, ts) lv (.int v :: .int u :: r) σ = some (pc', lv', st', σ') := h1
  unfold f_iop at h1
  simp only at h1
  split at h1
  · rename_i w hw
    cases h1
    exact ⟨m, w, hm, hw, h2⟩
  · cases h1
theorem v_lop {u v : Int64} (h : prun n mi pc lv (.long v :: .long u :: r) σ = some x) (hq : pins mi pc = some (11, nx, a, b, ts))  : ∃ m w, m < n ∧ lop a u v = some w ∧ prun m mi nx lv (.long w :: r) σ = some x := by
  obtain ⟨m, pc', lv', st', σ', hm, h1, h2⟩ := pinv h hq (fun e => absurd (show (11 : Nat) = 36 from e) (by decide)) (fun e => absurd (show 37 ≤ (11 : Nat) ∧ (11 : Nat) ≤ 40 from e) (by decide))
  have h1 : f_lop (11, nx, a, b, ts) lv (.long v :: .long u :: r) σ = some (pc', lv', st', σ') := h1
  unfold f_lop at h1
  simp only at h1
  split at h1
  · rename_i w hw
    cases h1
    exact ⟨m, w, hm, hw, h2⟩
  · cases h1
theorem v_lcmp {u v : Int64} (h : prun n mi pc lv (.long v :: .long u :: r) σ = some x) (hq : pins mi pc = some (12, nx, a, b, ts))  : ∃ m, m < n ∧ prun m mi nx lv (.int (lg_cmp u v) :: r) σ = some x := by
  obtain ⟨m, pc', lv', st', σ', hm, h1, h2⟩ := pinv h hq (fun e => absurd (show (12 : Nat) = 36 from e) (by decide)) (fun e => absurd (show 37 ≤ (12 : Nat) ∧ (12 : Nat) ≤ 40 from e) (by decide))
  have h1 : f_lcmp (12, nx, a, b, ts) lv (.long v :: .long u :: r) σ = some (pc', lv', st', σ') := h1
  unfold f_lcmp at h1
  simp only at h1
  cases h1
  exact ⟨m, hm, h2⟩
theorem v_i2l {u : Int32} (h : prun n mi pc lv (.int u :: r) σ = some x) (hq : pins mi pc = some (13, nx, a, b, ts))  : ∃ m, m < n ∧ prun m mi nx lv (.long u.toInt64 :: r) σ = some x := by
  obtain ⟨m, pc', lv', st', σ', hm, h1, h2⟩ := pinv h hq (fun e => absurd (show (13 : Nat) = 36 from e) (by decide)) (fun e => absurd (show 37 ≤ (13 : Nat) ∧ (13 : Nat) ≤ 40 from e) (by decide))
  have h1 : f_i2l (13, nx, a, b, ts) lv (.int u :: r) σ = some (pc', lv', st', σ') := h1
  unfold f_i2l at h1
  simp only at h1
  cases h1
  exact ⟨m, hm, h2⟩
theorem v_l2i {u : Int64} (h : prun n mi pc lv (.long u :: r) σ = some x) (hq : pins mi pc = some (14, nx, a, b, ts))  : ∃ m, m < n ∧ prun m mi nx lv (.int u.toInt32 :: r) σ = some x := by
  obtain ⟨m, pc', lv', st', σ', hm, h1, h2⟩ := pinv h hq (fun e => absurd (show (14 : Nat) = 36 from e) (by decide)) (fun e => absurd (show 37 ≤ (14 : Nat) ∧ (14 : Nat) ≤ 40 from e) (by decide))
  have h1 : f_l2i (14, nx, a, b, ts) lv (.long u :: r) σ = some (pc', lv', st', σ') := h1
  unfold f_l2i at h1
  simp only at h1
  cases h1
  exact ⟨m, hm, h2⟩
theorem v_if {u : Int32} (h : prun n mi pc lv (.int u :: r) σ = some x) (hq : pins mi pc = some (16, nx, a, b, ts))  : ∃ m, m < n ∧ ((icd a u 0 = true ∧ prun m mi b.toNat lv r σ = some x) ∨ (icd a u 0 = false ∧ prun m mi nx lv r σ = some x)) := by
  obtain ⟨m, pc', lv', st', σ', hm, h1, h2⟩ := pinv h hq (fun e => absurd (show (16 : Nat) = 36 from e) (by decide)) (fun e => absurd (show 37 ≤ (16 : Nat) ∧ (16 : Nat) ≤ 40 from e) (by decide))
  have h1 : f_if (16, nx, a, b, ts) lv (.int u :: r) σ = some (pc', lv', st', σ') := h1
  unfold f_if at h1
  simp only at h1
  cases h1
  refine ⟨m, hm, ?_⟩
  cases hc : icd a u 0 with
  | true => rw [hc, if_pos rfl] at h2; exact Or.inl ⟨rfl, h2⟩
  | false => rw [hc, if_neg (by decide)] at h2; exact Or.inr ⟨rfl, h2⟩
theorem v_ic2 {u v : Int32} (h : prun n mi pc lv (.int v :: .int u :: r) σ = some x) (hq : pins mi pc = some (17, nx, a, b, ts))  : ∃ m, m < n ∧ ((icd a u v = true ∧ prun m mi b.toNat lv r σ = some x) ∨ (icd a u v = false ∧ prun m mi nx lv r σ = some x)) := by
  obtain ⟨m, pc', lv', st', σ', hm, h1, h2⟩ := pinv h hq (fun e => absurd (show (17 : Nat) = 36 from e) (by decide)) (fun e => absurd (show 37 ≤ (17 : Nat) ∧ (17 : Nat) ≤ 40 from e) (by decide))
  have h1 : f_icmp (17, nx, a, b, ts) lv (.int v :: .int u :: r) σ = some (pc', lv', st', σ') := h1
  unfold f_icmp at h1
  simp only at h1
  cases h1
  refine ⟨m, hm, ?_⟩
  cases hc : icd a u v with
  | true => rw [hc, if_pos rfl] at h2; exact Or.inl ⟨rfl, h2⟩
  | false => rw [hc, if_neg (by decide)] at h2; exact Or.inr ⟨rfl, h2⟩
theorem v_go  (h : prun n mi pc lv r σ = some x) (hq : pins mi pc = some (20, nx, a, b, ts))  : ∃ m, m < n ∧ prun m mi b.toNat lv r σ = some x := by
  obtain ⟨m, pc', lv', st', σ', hm, h1, h2⟩ := pinv h hq (fun e => absurd (show (20 : Nat) = 36 from e) (by decide)) (fun e => absurd (show 37 ≤ (20 : Nat) ∧ (20 : Nat) ≤ 40 from e) (by decide))
  have h1 : some (b.toNat, lv, r, σ) = some (pc', lv', st', σ') := h1
  cases h1
  exact ⟨m, hm, h2⟩
theorem v_get {u : Nat} (h : prun n mi pc lv (.ref u :: r) σ = some x) (hq : pins mi pc = some (22, nx, a, b, ts))  : ∃ m, m < n ∧ pis σ u a.toNat = true ∧ prun m mi nx lv (sV σ u b.toNat :: r) σ = some x := by
  obtain ⟨m, pc', lv', st', σ', hm, h1, h2⟩ := pinv h hq (fun e => absurd (show (22 : Nat) = 36 from e) (by decide)) (fun e => absurd (show 37 ≤ (22 : Nat) ∧ (22 : Nat) ≤ 40 from e) (by decide))
  have h1 : f_get (22, nx, a, b, ts) lv (.ref u :: r) σ = some (pc', lv', st', σ') := h1
  unfold f_get at h1
  simp only at h1
  split at h1
  · rename_i hp
    cases h1
    exact ⟨m, hm, hp, h2⟩
  · cases h1
theorem v_put {u : Nat} {v : Value} (h : prun n mi pc lv (v :: .ref u :: r) σ = some x) (hq : pins mi pc = some (23, nx, a, b, ts))  : ∃ m, m < n ∧ prun m mi nx lv r (sPut σ u b.toNat v) = some x := by
  obtain ⟨m, pc', lv', st', σ', hm, h1, h2⟩ := pinv h hq (fun e => absurd (show (23 : Nat) = 36 from e) (by decide)) (fun e => absurd (show 37 ≤ (23 : Nat) ∧ (23 : Nat) ≤ 40 from e) (by decide))
  have h1 : f_put (23, nx, a, b, ts) lv (v :: .ref u :: r) σ = some (pc', lv', st', σ') := h1
  unfold f_put at h1
  simp only at h1
  split at h1
  · cases h1
    exact ⟨m, hm, h2⟩
  · cases h1
theorem v_iald {u : Nat} {i : Int32} (h : prun n mi pc lv (.int i :: .ref u :: r) σ = some x) (hq : pins mi pc = some (24, nx, a, b, ts))  : ∃ (m : Nat) (w : Int32), m < n ∧ pin i (rk (sK σ u)).2 = true ∧ sV σ u i.toNatClampNeg = .int w ∧ prun m mi nx lv (.int w :: r) σ = some x := by
  obtain ⟨m, pc', lv', st', σ', hm, h1, h2⟩ := pinv h hq (fun e => absurd (show (24 : Nat) = 36 from e) (by decide)) (fun e => absurd (show 37 ≤ (24 : Nat) ∧ (24 : Nat) ≤ 40 from e) (by decide))
  have h1 : f_iald (24, nx, a, b, ts) lv (.int i :: .ref u :: r) σ = some (pc', lv', st', σ') := h1
  unfold f_iald at h1
  simp only at h1
  split at h1
  · rename_i hp
    split at h1
    · rename_i w hw
      cases h1
      exact ⟨m, w, hm, (kN hp).2, hw, h2⟩
    · cases h1
  · cases h1
theorem v_bald {u : Nat} {i : Int32} (h : prun n mi pc lv (.int i :: .ref u :: r) σ = some x) (hq : pins mi pc = some (25, nx, a, b, ts))  : ∃ (m : Nat) (w : Int32), m < n ∧ pin i (rk (sK σ u)).2 = true ∧ sV σ u i.toNatClampNeg = .int w ∧ prun m mi nx lv (.int w :: r) σ = some x := by
  obtain ⟨m, pc', lv', st', σ', hm, h1, h2⟩ := pinv h hq (fun e => absurd (show (25 : Nat) = 36 from e) (by decide)) (fun e => absurd (show 37 ≤ (25 : Nat) ∧ (25 : Nat) ≤ 40 from e) (by decide))
  have h1 : f_bald (25, nx, a, b, ts) lv (.int i :: .ref u :: r) σ = some (pc', lv', st', σ') := h1
  unfold f_bald at h1
  simp only at h1
  split at h1
  · rename_i hp
    split at h1
    · rename_i w hw
      cases h1
      exact ⟨m, w, hm, (kN hp).2, hw, h2⟩
    · cases h1
  · cases h1
theorem v_lald {u : Nat} {i : Int32} (h : prun n mi pc lv (.int i :: .ref u :: r) σ = some x) (hq : pins mi pc = some (26, nx, a, b, ts))  : ∃ (m : Nat) (w : Int64), m < n ∧ pin i (rk (sK σ u)).2 = true ∧ sV σ u i.toNatClampNeg = .long w ∧ prun m mi nx lv (.long w :: r) σ = some x := by
  obtain ⟨m, pc', lv', st', σ', hm, h1, h2⟩ := pinv h hq (fun e => absurd (show (26 : Nat) = 36 from e) (by decide)) (fun e => absurd (show 37 ≤ (26 : Nat) ∧ (26 : Nat) ≤ 40 from e) (by decide))
  have h1 : f_lald (26, nx, a, b, ts) lv (.int i :: .ref u :: r) σ = some (pc', lv', st', σ') := h1
  unfold f_lald at h1
  simp only at h1
  split at h1
  · rename_i hp
    split at h1
    · rename_i w hw
      cases h1
      exact ⟨m, w, hm, (kN hp).2, hw, h2⟩
    · cases h1
  · cases h1
theorem v_iast {u : Nat} {i : Int32} {v : Int32} (h : prun n mi pc lv (.int v :: .int i :: .ref u :: r) σ = some x) (hq : pins mi pc = some (28, nx, a, b, ts))  : ∃ m, m < n ∧ pin i (rk (sK σ u)).2 = true ∧ prun m mi nx lv r (sPut σ u i.toNatClampNeg (.int v)) = some x := by
  obtain ⟨m, pc', lv', st', σ', hm, h1, h2⟩ := pinv h hq (fun e => absurd (show (28 : Nat) = 36 from e) (by decide)) (fun e => absurd (show 37 ≤ (28 : Nat) ∧ (28 : Nat) ≤ 40 from e) (by decide))
  have h1 : f_iast (28, nx, a, b, ts) lv (.int v :: .int i :: .ref u :: r) σ = some (pc', lv', st', σ') := h1
  unfold f_iast at h1
  simp only at h1
  split at h1
  · rename_i hp
    cases h1
    exact ⟨m, hm, (kN hp).2, h2⟩
  · cases h1
theorem v_last {u : Nat} {i : Int32} {v : Int64} (h : prun n mi pc lv (.long v :: .int i :: .ref u :: r) σ = some x) (hq : pins mi pc = some (30, nx, a, b, ts))  : ∃ m, m < n ∧ pin i (rk (sK σ u)).2 = true ∧ prun m mi nx lv r (sPut σ u i.toNatClampNeg (.long v)) = some x := by
  obtain ⟨m, pc', lv', st', σ', hm, h1, h2⟩ := pinv h hq (fun e => absurd (show (30 : Nat) = 36 from e) (by decide)) (fun e => absurd (show 37 ≤ (30 : Nat) ∧ (30 : Nat) ≤ 40 from e) (by decide))
  have h1 : f_last (30, nx, a, b, ts) lv (.long v :: .int i :: .ref u :: r) σ = some (pc', lv', st', σ') := h1
  unfold f_last at h1
  simp only at h1
  split at h1
  · rename_i hp
    cases h1
    exact ⟨m, hm, (kN hp).2, h2⟩
  · cases h1
theorem v_bast {u : Nat} {i v : Int32} (h : prun n mi pc lv (.int v :: .int i :: .ref u :: r) σ = some x) (hq : pins mi pc = some (29, nx, a, b, ts)) (h3 : (rk (sK σ u)).1 = 3) : ∃ m, m < n ∧ pin i (rk (sK σ u)).2 = true ∧ prun m mi nx lv r (sPut σ u i.toNatClampNeg (.int (vp_nar .boolean v))) = some x := by
  obtain ⟨m, pc', lv', st', σ', hm, h1, h2⟩ := pinv h hq (fun e => absurd (show (29 : Nat) = 36 from e) (by decide)) (fun e => absurd (show 37 ≤ (29 : Nat) ∧ (29 : Nat) ≤ 40 from e) (by decide))
  have h1 : f_bast (29, nx, a, b, ts) lv (.int v :: .int i :: .ref u :: r) σ = some (pc', lv', st', σ') := h1
  unfold f_bast at h1
  simp only at h1
  split at h1
  · rename_i hp
    have := (kN hp).1
    unfold isRow at this
    have := (kN (kN this).2).2
    rw [h3] at this
    cases this
  · split at h1
    · rename_i hp
      cases h1
      exact ⟨m, hm, (kN hp).2, h2⟩
    · cases h1
theorem v_dup {v : Value} (h : prun n mi pc lv (v :: r) σ = some x) (hq : pins mi pc = some (34, nx, a, b, ts))  : ∃ m, m < n ∧ prun m mi nx lv (v :: v :: r) σ = some x := by
  obtain ⟨m, pc', lv', st', σ', hm, h1, h2⟩ := pinv h hq (fun e => absurd (show (34 : Nat) = 36 from e) (by decide)) (fun e => absurd (show 37 ≤ (34 : Nat) ∧ (34 : Nat) ≤ 40 from e) (by decide))
  have h1 : f_dup (34, nx, a, b, ts) lv (v :: r) σ = some (pc', lv', st', σ') := h1
  unfold f_dup at h1
  simp only at h1
  split at h1
  · cases h1
    exact ⟨m, hm, h2⟩
  · cases h1
theorem v_dup2 {v w : Value} (h : prun n mi pc lv (v :: w :: r) σ = some x) (hq : pins mi pc = some (35, nx, a, b, ts))  : ∃ m, m < n ∧ prun m mi nx lv (v :: w :: v :: w :: r) σ = some x := by
  obtain ⟨m, pc', lv', st', σ', hm, h1, h2⟩ := pinv h hq (fun e => absurd (show (35 : Nat) = 36 from e) (by decide)) (fun e => absurd (show 37 ≤ (35 : Nat) ∧ (35 : Nat) ≤ 40 from e) (by decide))
  have h1 : f_dup2 (35, nx, a, b, ts) lv (v :: w :: r) σ = some (pc', lv', st', σ') := h1
  unfold f_dup2 at h1
  simp only at h1
  split at h1
  · cases h1
    exact ⟨m, hm, h2⟩
  · cases h1
theorem v_pop {v : Value} (h : prun n mi pc lv (v :: r) σ = some x) (hq : pins mi pc = some (33, nx, a, b, ts))  : ∃ m, m < n ∧ prun m mi nx lv r σ = some x := by
  obtain ⟨m, pc', lv', st', σ', hm, h1, h2⟩ := pinv h hq (fun e => absurd (show (33 : Nat) = 36 from e) (by decide)) (fun e => absurd (show 37 ≤ (33 : Nat) ∧ (33 : Nat) ≤ 40 from e) (by decide))
  have h1 : f_pop (33, nx, a, b, ts) lv (v :: r) σ = some (pc', lv', st', σ') := h1
  unfold f_pop at h1
  simp only at h1
  split at h1
  · cases h1
    exact ⟨m, hm, h2⟩
  · cases h1
end PV
