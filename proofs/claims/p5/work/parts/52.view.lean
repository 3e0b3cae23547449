def isIn (j : Nat) : Bool := j == 2 || (j == 3 || (j == 46 || (j == 47 || (j == 50 || (j == 53 || (j == 55 || (j == 58 || (j == 59 || j == 60))))))))
def isRw (j : Nat) : Bool := decide (j < 68) && (!(isIn j) && !(j == 0))
def szR (j : Nat) : Int := ((rk (40 + j)).2 : Int)
/-- the model's object t, its rows A j -/
def Wld (t : Nat) (A : Nat → Nat) (σ : ps) : Prop := (∀ i j, A i = A j → i = j) ∧ (∀ j, ¬ A j = t) ∧ (∀ j, isRw j = true → sV σ t j = .ref (A j) ∧ sK σ (A j) = 40 + j) ∧ (∀ j, isIn j = true → ∃ x, sV σ t j = .int x) ∧ ∃ x, sV σ t 0 = .long x
def vw (t : Nat) (A : Nat → Nat) (σ : ps) : Nat → Nat → Value := fun j i => if isRw j = true then sV σ (A j) i else sV σ t j
def up (V : Nat → Nat → Value) (j i : Nat) (v : Value) : Nat → Nat → Value := fun j' i' => if j' = j ∧ (i' = i ∨ isRw j = false) then v else V j' i'
def gI (V : Nat → Nat → Value) (j i : Nat) : Int32 := toI (V j i)
def gL (V : Nat → Nat → Value) (j i : Nat) : Int64 := toL (V j i)
section WD
variable {t : Nat} {A : Nat → Nat} {σ : ps}
theorem Wld.row (W : Wld t A σ) (k i : Nat) (v : Value) : Wld t A (sPut σ (A k) i v) := by
  obtain ⟨w1, w2, w3, w4, w5⟩ := W
  refine ⟨w1, w2, fun j hj => ?_, fun j hj => ?_, ?_⟩
  · rw [sPut_ne _ _ (fun e => w2 k e.symm)]; exact w3 j hj
  · rw [sPut_ne _ _ (fun e => w2 k e.symm)]; exact w4 j hj
  · rw [sPut_ne _ _ (fun e => w2 k e.symm)]; exact w5
theorem isIn_rw {k : Nat} (h : isIn k = true) : isRw k = false := by
  unfold isRw
  rw [h]
  simp
theorem Wld.fld (W : Wld t A σ) {k : Nat} (hk : isIn k = true) (v : Int32) : Wld t A (sPut σ t k (.int v)) := by
  obtain ⟨w1, w2, w3, w4, w5⟩ := W
  have hr := isIn_rw hk
  have h0 : ¬ k = 0 := by intro e; subst e; revert hk; decide
  refine ⟨w1, w2, fun j hj => ?_, fun j hj => ?_, ?_⟩
  · have : ¬ j = k := by intro e; subst e; rw [hr] at hj; cases hj
    rw [sPut_self]; simp only; rw [if_neg this]; exact w3 j hj
  · rw [sPut_self]; simp only
    by_cases e : j = k
    · rw [if_pos e]; exact ⟨v, rfl⟩
    · rw [if_neg e]; exact w4 j hj
  · rw [sPut_self]; simp only; rw [if_neg (fun e => h0 e.symm)]; exact w5
theorem vw_row (W : Wld t A σ) {k : Nat} (hk : isRw k = true) (i : Nat) (v : Value) : vw t A (sPut σ (A k) i v) = up (vw t A σ) k i v := by
  funext j i'
  unfold vw up
  rw [hk]
  by_cases hj : isRw j = true
  · rw [if_pos hj]
    by_cases e : j = k
    · subst e
      rw [sPut_self]
      simp only [true_and, or_false, hj, if_true]
      simp
    · rw [sPut_ne _ _ (fun q => e (W.1 _ _ q)), if_neg (fun q => e q.1)]
      show _ = if isRw j = true then sV σ (A j) i' else sV σ t j
      rw [if_pos hj]
  · have e : ¬ j = k := by intro e; subst e; exact hj hk
    rw [if_neg hj, if_neg (fun q => e q.1), sPut_ne _ _ (fun e => W.2.1 k e.symm)]
    show _ = if isRw j = true then sV σ (A j) i' else sV σ t j
    rw [if_neg hj]
theorem vw_fld (W : Wld t A σ) {k : Nat} (hk : isRw k = false) (v : Value) : vw t A (sPut σ t k v) = up (vw t A σ) k 0 v := by
  funext j i'
  unfold vw up
  rw [hk]
  by_cases hj : isRw j = true
  · have e : ¬ j = k := by intro e; subst e; rw [hk] at hj; cases hj
    rw [if_pos hj, if_neg (fun q => e q.1), sPut_ne _ _ (W.2.1 j)]
    show _ = if isRw j = true then sV σ (A j) i' else sV σ t j
    rw [if_pos hj]
  · rw [if_neg hj, sPut_self]
    simp only [or_true, and_true]
    rw [if_neg hj]
theorem pinE {i : Int32} {N : Nat} (h : pin i N = true) : 0 ≤ i.toInt ∧ i.toInt < N := by
  unfold pin at h
  obtain ⟨p1, p2⟩ := kN h
  rw [Bool.not_eq_true', decide_eq_false_iff_not] at p1
  rw [decide_eq_true_eq] at p2
  have p2 : i.toInt.toNat < N := p2
  have p3 : ¬ i.toInt < (0 : Int32).toInt := fun q => p1 (Int32.lt_iff_toInt_lt.mpr q)
  have p3 : ¬ i.toInt < 0 := p3
  omega
variable {n mi pc nx : Nat} {lv : LV} {r : List Value} {x : Option Value × ps} {a b : Int} {ts : List Nat} {k : Nat}
theorem w_row (W : Wld t A σ) (h : prun n mi pc lv (.ref t :: r) σ = some x) (hq : pins mi pc = some (22, nx, 13, ((k : Nat) : Int), ts)) (hk : isRw k = true) : ∃ m, m < n ∧ prun m mi nx lv (.ref (A k) :: r) σ = some x := by
  obtain ⟨m, l, _, h⟩ := v_get h hq
  rw [show sV σ t ((k : Int)).toNat = .ref (A k) from (W.2.2.1 k hk).1] at h
  exact ⟨m, l, h⟩
theorem w_fi (W : Wld t A σ) (h : prun n mi pc lv (.ref t :: r) σ = some x) (hq : pins mi pc = some (22, nx, 13, ((k : Nat) : Int), ts)) (hk : isIn k = true) : ∃ m w, m < n ∧ w = gI (vw t A σ) k 0 ∧ prun m mi nx lv (.int w :: r) σ = some x := by
  obtain ⟨m, l, _, h⟩ := v_get h hq
  obtain ⟨w, hw⟩ := W.2.2.2.1 k hk
  rw [show sV σ t ((k : Int)).toNat = .int w from hw] at h
  refine ⟨m, w, l, ?_, h⟩
  unfold gI vw
  rw [isIn_rw hk, if_neg (by decide), hw]
  rfl
theorem w_fl (W : Wld t A σ) (h : prun n mi pc lv (.ref t :: r) σ = some x) (hq : pins mi pc = some (22, nx, 13, 0, ts)) : ∃ m w, m < n ∧ w = gL (vw t A σ) 0 0 ∧ prun m mi nx lv (.long w :: r) σ = some x := by
  obtain ⟨m, l, _, h⟩ := v_get h hq
  obtain ⟨w, hw⟩ := W.2.2.2.2
  rw [show sV σ t (0 : Int).toNat = .long w from hw] at h
  refine ⟨m, w, l, ?_, h⟩
  unfold gL vw
  rw [show isRw 0 = false from rfl, if_neg (by decide), hw]
  rfl
theorem w_sz (W : Wld t A σ) (hk : isRw k = true) {i : Int32} (h : pin i (rk (sK σ (A k))).2 = true) : 0 ≤ i.toInt ∧ i.toInt < szR k := by
  rw [(W.2.2.1 k hk).2] at h
  exact pinE h
theorem w_iald {i : Int32} (W : Wld t A σ) (h : prun n mi pc lv (.int i :: .ref (A k) :: r) σ = some x) (hq : pins mi pc = some (24, nx, a, b, ts)) (hk : isRw k = true) : ∃ m w, m < n ∧ (0 ≤ i.toInt ∧ i.toInt < szR k) ∧ w = gI (vw t A σ) k i.toNatClampNeg ∧ prun m mi nx lv (.int w :: r) σ = some x := by
  obtain ⟨m, w, l, hp, hw, h⟩ := v_iald h hq
  refine ⟨m, w, l, w_sz W hk hp, ?_, h⟩
  unfold gI vw
  rw [if_pos hk, hw]
  rfl
theorem w_bald {i : Int32} (W : Wld t A σ) (h : prun n mi pc lv (.int i :: .ref (A k) :: r) σ = some x) (hq : pins mi pc = some (25, nx, a, b, ts)) (hk : isRw k = true) : ∃ m w, m < n ∧ (0 ≤ i.toInt ∧ i.toInt < szR k) ∧ w = gI (vw t A σ) k i.toNatClampNeg ∧ prun m mi nx lv (.int w :: r) σ = some x := by
  obtain ⟨m, w, l, hp, hw, h⟩ := v_bald h hq
  refine ⟨m, w, l, w_sz W hk hp, ?_, h⟩
  unfold gI vw
  rw [if_pos hk, hw]
  rfl
theorem w_lald {i : Int32} (W : Wld t A σ) (h : prun n mi pc lv (.int i :: .ref (A k) :: r) σ = some x) (hq : pins mi pc = some (26, nx, a, b, ts)) (hk : isRw k = true) : ∃ m w, m < n ∧ (0 ≤ i.toInt ∧ i.toInt < szR k) ∧ w = gL (vw t A σ) k i.toNatClampNeg ∧ prun m mi nx lv (.long w :: r) σ = some x := by
  obtain ⟨m, w, l, hp, hw, h⟩ := v_lald h hq
  refine ⟨m, w, l, w_sz W hk hp, ?_, h⟩
  unfold gL vw
  rw [if_pos hk, hw]
  rfl
/-- a store: a new state with its world and view; rows and sizes are as before -/
def SP (t : Nat) (A : Nat → Nat) (σ σ' : ps) : Prop := Wld t A σ' ∧ sL σ' = sL σ ∧ sK σ' = sK σ ∧ σ'.1 = σ.1 ∧ σ'.2.1 = σ.2.1 ∧ ∀ a j, (¬ a = t) → (∀ k, ¬ a = A k) → sV σ' a j = sV σ a j
theorem SP.rf (W : Wld t A σ) : SP t A σ σ := ⟨W, rfl, rfl, rfl, rfl, fun _ _ _ _ => rfl⟩
theorem SP.tr {σ1 σ2 : ps} (h1 : SP t A σ σ1) (h2 : SP t A σ1 σ2) : SP t A σ σ2 := ⟨h2.1, h2.2.1.trans h1.2.1, h2.2.2.1.trans h1.2.2.1, h2.2.2.2.1.trans h1.2.2.2.1, h2.2.2.2.2.1.trans h1.2.2.2.2.1, fun a j q1 q2 => (h2.2.2.2.2.2 a j q1 q2).trans (h1.2.2.2.2.2 a j q1 q2)⟩
theorem SP.row (W : Wld t A σ) (k i : Nat) (v : Value) : SP t A σ (sPut σ (A k) i v) := ⟨W.row k i v, rfl, rfl, rfl, rfl, fun a j _ q => by rw [sPut_ne _ _ (q k)]⟩
theorem SP.fld (W : Wld t A σ) {k : Nat} (hk : isIn k = true) (v : Int32) : SP t A σ (sPut σ t k (.int v)) := ⟨W.fld hk v, rfl, rfl, rfl, rfl, fun a j q _ => by rw [sPut_ne _ _ q]⟩
theorem w_iast {i v : Int32} (W : Wld t A σ) (h : prun n mi pc lv (.int v :: .int i :: .ref (A k) :: r) σ = some x) (hq : pins mi pc = some (28, nx, a, b, ts)) (hk : isRw k = true) : ∃ m σ', m < n ∧ (0 ≤ i.toInt ∧ i.toInt < szR k) ∧ SP t A σ σ' ∧ vw t A σ' = up (vw t A σ) k i.toNatClampNeg (.int v) ∧ prun m mi nx lv r σ' = some x := by
  obtain ⟨m, l, hp, h⟩ := v_iast h hq
  exact ⟨m, _, l, w_sz W hk hp, SP.row W _ _ _, vw_row W hk _ _, h⟩
theorem w_last {i : Int32} {v : Int64} (W : Wld t A σ) (h : prun n mi pc lv (.long v :: .int i :: .ref (A k) :: r) σ = some x) (hq : pins mi pc = some (30, nx, a, b, ts)) (hk : isRw k = true) : ∃ m σ', m < n ∧ (0 ≤ i.toInt ∧ i.toInt < szR k) ∧ SP t A σ σ' ∧ vw t A σ' = up (vw t A σ) k i.toNatClampNeg (.long v) ∧ prun m mi nx lv r σ' = some x := by
  obtain ⟨m, l, hp, h⟩ := v_last h hq
  exact ⟨m, _, l, w_sz W hk hp, SP.row W _ _ _, vw_row W hk _ _, h⟩
theorem w_bast {i v : Int32} (W : Wld t A σ) (h : prun n mi pc lv (.int v :: .int i :: .ref (A k) :: r) σ = some x) (hq : pins mi pc = some (29, nx, a, b, ts)) (hk : isRw k = true) (hb : (rk (40 + k)).1 = 3) : ∃ m σ', m < n ∧ (0 ≤ i.toInt ∧ i.toInt < szR k) ∧ SP t A σ σ' ∧ vw t A σ' = up (vw t A σ) k i.toNatClampNeg (.int (vp_nar .boolean v)) ∧ prun m mi nx lv r σ' = some x := by
  obtain ⟨m, l, hp, h⟩ := v_bast h hq (by rw [(W.2.2.1 k hk).2]; exact hb)
  exact ⟨m, _, l, w_sz W hk hp, SP.row W _ _ _, vw_row W hk _ _, h⟩
theorem w_put {v : Int32} (W : Wld t A σ) (h : prun n mi pc lv (.int v :: .ref t :: r) σ = some x) (hq : pins mi pc = some (23, nx, 13, ((k : Nat) : Int), ts)) (hk : isIn k = true) : ∃ m σ', m < n ∧ SP t A σ σ' ∧ vw t A σ' = up (vw t A σ) k 0 (.int v) ∧ prun m mi nx lv r σ' = some x := by
  obtain ⟨m, l, h⟩ := v_put h hq
  exact ⟨m, _, l, SP.fld W hk _, vw_fld W (isIn_rw hk) _, h⟩
theorem up_ne {V : Nat → Nat → Value} {j i j' i' : Nat} {v : Value} (h : ¬ j' = j) : up V j i v j' i' = V j' i' := by
  unfold up; rw [if_neg (fun q => h q.1)]
theorem up_ni {V : Nat → Nat → Value} {j i i' : Nat} {v : Value} (hj : isRw j = true) (h : ¬ i' = i) : up V j i v j i' = V j i' := by
  unfold up; rw [if_neg]; rintro ⟨_, q | q⟩
  · exact h q
  · rw [hj] at q; cases q
theorem up_eq {V : Nat → Nat → Value} {j i : Nat} {v : Value} : up V j i v j i = v := by
  unfold up; rw [if_pos ⟨rfl, Or.inl rfl⟩]
theorem up_sc {V : Nat → Nat → Value} {j i i' : Nat} {v : Value} (hj : isRw j = false) : up V j i v j i' = v := by
  unfold up; rw [if_pos ⟨rfl, Or.inr hj⟩]
theorem gI_ne {V : Nat → Nat → Value} {j i j' i' : Nat} {v : Value} (h : ¬ j' = j) : gI (up V j i v) j' i' = gI V j' i' := by unfold gI; rw [up_ne h]
theorem gI_ni {V : Nat → Nat → Value} {j i i' : Nat} {v : Value} (hj : isRw j = true) (h : ¬ i' = i) : gI (up V j i v) j i' = gI V j i' := by unfold gI; rw [up_ni hj h]
theorem gI_eq {V : Nat → Nat → Value} {j i : Nat} {v : Int32} : gI (up V j i (.int v)) j i = v := by unfold gI; rw [up_eq]; rfl
theorem gI_sc {V : Nat → Nat → Value} {j i i' : Nat} {v : Int32} (hj : isRw j = false) : gI (up V j i (.int v)) j i' = v := by unfold gI; rw [up_sc hj]; rfl
theorem gL_ne {V : Nat → Nat → Value} {j i j' i' : Nat} {v : Value} (h : ¬ j' = j) : gL (up V j i v) j' i' = gL V j' i' := by unfold gL; rw [up_ne h]
theorem gL_ni {V : Nat → Nat → Value} {j i i' : Nat} {v : Value} (hj : isRw j = true) (h : ¬ i' = i) : gL (up V j i v) j i' = gL V j i' := by unfold gL; rw [up_ni hj h]
theorem gL_eq {V : Nat → Nat → Value} {j i : Nat} {v : Int64} : gL (up V j i (.long v)) j i = v := by unfold gL; rw [up_eq]; rfl
end WD
theorem lvLe.nil {lv : LV} : lvLe [] lv := fun i v h => by cases h
theorem lvLe.cons {i : Nat} {v : Value} {r lv : LV} (h : lvLe r lv) (h1 : plk lv i = some v) : lvLe ((i, v) :: r) lv := fun j w hw => by
  unfold plk at hw
  split at hw
  · rename_i e; subst e; cases hw; exact h1
  · exact h j w hw
theorem prun_lv {n mi pc : Nat} {lv lv' : LV} {st : List Value} {σ : ps} {x : Option Value × ps} (h : prun n mi pc lv st σ = some x) (hL : lvLe lv lv') (n1 : (lv.map (·.1)).Nodup) (n2 : (lv'.map (·.1)).Nodup) : prun n mi pc lv' st σ = some x := prun_sub n mi pc lv' lv st σ x hL n1 n2 h
section UO
variable {n mi pc nx : Nat} {lv : LV} {r : List Value} {σ : ps} {x : Option Value × ps} {a b : Int} {ts : List Nat}
theorem u_add {u v : Int32} (h : prun n mi pc lv (.int v :: .int u :: r) σ = some x) (hq : pins mi pc = some (10, nx, 0, b, ts)) : ∃ m w, m < n ∧ w = u + v ∧ prun m mi nx lv (.int w :: r) σ = some x := by
  obtain ⟨m, w, l, e, h⟩ := v_iop h hq
  exact ⟨m, w, l, (Option.some.inj e).symm, h⟩
theorem u_sub {u v : Int32} (h : prun n mi pc lv (.int v :: .int u :: r) σ = some x) (hq : pins mi pc = some (10, nx, 1, b, ts)) : ∃ m w, m < n ∧ w = u - v ∧ prun m mi nx lv (.int w :: r) σ = some x := by
  obtain ⟨m, w, l, e, h⟩ := v_iop h hq
  exact ⟨m, w, l, (Option.some.inj e).symm, h⟩
theorem u_mul {u v : Int32} (h : prun n mi pc lv (.int v :: .int u :: r) σ = some x) (hq : pins mi pc = some (10, nx, 2, b, ts)) : ∃ m w, m < n ∧ w = u * v ∧ prun m mi nx lv (.int w :: r) σ = some x := by
  obtain ⟨m, w, l, e, h⟩ := v_iop h hq
  exact ⟨m, w, l, (Option.some.inj e).symm, h⟩
theorem u_and {u v : Int32} (h : prun n mi pc lv (.int v :: .int u :: r) σ = some x) (hq : pins mi pc = some (10, nx, 5, b, ts)) : ∃ m w, m < n ∧ w = u &&& v ∧ prun m mi nx lv (.int w :: r) σ = some x := by
  obtain ⟨m, w, l, e, h⟩ := v_iop h hq
  exact ⟨m, w, l, (Option.some.inj e).symm, h⟩
theorem u_or {u v : Int32} (h : prun n mi pc lv (.int v :: .int u :: r) σ = some x) (hq : pins mi pc = some (10, nx, 6, b, ts)) : ∃ m w, m < n ∧ w = u ||| v ∧ prun m mi nx lv (.int w :: r) σ = some x := by
  obtain ⟨m, w, l, e, h⟩ := v_iop h hq
  exact ⟨m, w, l, (Option.some.inj e).symm, h⟩
theorem u_shl {u v : Int32} (h : prun n mi pc lv (.int v :: .int u :: r) σ = some x) (hq : pins mi pc = some (10, nx, 8, b, ts)) : ∃ m w, m < n ∧ w = u <<< (v &&& 31) ∧ prun m mi nx lv (.int w :: r) σ = some x := by
  obtain ⟨m, w, l, e, h⟩ := v_iop h hq
  exact ⟨m, w, l, (Option.some.inj e).symm, h⟩
theorem u_shr {u v : Int32} (h : prun n mi pc lv (.int v :: .int u :: r) σ = some x) (hq : pins mi pc = some (10, nx, 9, b, ts)) : ∃ m w, m < n ∧ w = u >>> (v &&& 31) ∧ prun m mi nx lv (.int w :: r) σ = some x := by
  obtain ⟨m, w, l, e, h⟩ := v_iop h hq
  exact ⟨m, w, l, (Option.some.inj e).symm, h⟩
theorem u_div {u v : Int32} (h : prun n mi pc lv (.int v :: .int u :: r) σ = some x) (hq : pins mi pc = some (10, nx, 3, b, ts)) (hv : ¬ v = 0) : ∃ m w, m < n ∧ w = u / v ∧ prun m mi nx lv (.int w :: r) σ = some x := by
  obtain ⟨m, w, l, e, h⟩ := v_iop h hq
  have e : (if v = 0 then none else some (u / v)) = some w := e
  rw [if_neg hv] at e
  exact ⟨m, w, l, (Option.some.inj e).symm, h⟩
theorem u_rem {u v : Int32} (h : prun n mi pc lv (.int v :: .int u :: r) σ = some x) (hq : pins mi pc = some (10, nx, 4, b, ts)) (hv : ¬ v = 0) : ∃ m w, m < n ∧ w = u - u / v * v ∧ prun m mi nx lv (.int w :: r) σ = some x := by
  obtain ⟨m, w, l, e, h⟩ := v_iop h hq
  have e : (if v = 0 then none else some (u - u / v * v)) = some w := e
  rw [if_neg hv] at e
  exact ⟨m, w, l, (Option.some.inj e).symm, h⟩
theorem u_ladd {u v : Int64} (h : prun n mi pc lv (.long v :: .long u :: r) σ = some x) (hq : pins mi pc = some (11, nx, 0, b, ts)) : ∃ m w, m < n ∧ w = u + v ∧ prun m mi nx lv (.long w :: r) σ = some x := by
  obtain ⟨m, w, l, e, h⟩ := v_lop h hq
  exact ⟨m, w, l, (Option.some.inj e).symm, h⟩
theorem u_lsub {u v : Int64} (h : prun n mi pc lv (.long v :: .long u :: r) σ = some x) (hq : pins mi pc = some (11, nx, 1, b, ts)) : ∃ m w, m < n ∧ w = u - v ∧ prun m mi nx lv (.long w :: r) σ = some x := by
  obtain ⟨m, w, l, e, h⟩ := v_lop h hq
  exact ⟨m, w, l, (Option.some.inj e).symm, h⟩
theorem u_lmul {u v : Int64} (h : prun n mi pc lv (.long v :: .long u :: r) σ = some x) (hq : pins mi pc = some (11, nx, 2, b, ts)) : ∃ m w, m < n ∧ w = u * v ∧ prun m mi nx lv (.long w :: r) σ = some x := by
  obtain ⟨m, w, l, e, h⟩ := v_lop h hq
  exact ⟨m, w, l, (Option.some.inj e).symm, h⟩
theorem u_ldiv {u v : Int64} (h : prun n mi pc lv (.long v :: .long u :: r) σ = some x) (hq : pins mi pc = some (11, nx, 3, b, ts)) (hv : ¬ v = 0) : ∃ m w, m < n ∧ w = u / v ∧ prun m mi nx lv (.long w :: r) σ = some x := by
  obtain ⟨m, w, l, e, h⟩ := v_lop h hq
  have e : (if v = 0 then none else some (u / v)) = some w := e
  rw [if_neg hv] at e
  exact ⟨m, w, l, (Option.some.inj e).symm, h⟩
theorem u_lrem {u v : Int64} (h : prun n mi pc lv (.long v :: .long u :: r) σ = some x) (hq : pins mi pc = some (11, nx, 4, b, ts)) (hv : ¬ v = 0) : ∃ m w, m < n ∧ w = u - u / v * v ∧ prun m mi nx lv (.long w :: r) σ = some x := by
  obtain ⟨m, w, l, e, h⟩ := v_lop h hq
  have e : (if v = 0 then none else some (u - u / v * v)) = some w := e
  rw [if_neg hv] at e
  exact ⟨m, w, l, (Option.some.inj e).symm, h⟩
theorem icdE {u v : Int32} : (icd 0 u v = true ↔ u.toInt = v.toInt) ∧ (icd 1 u v = true ↔ ¬ u.toInt = v.toInt) ∧ (icd 2 u v = true ↔ u.toInt < v.toInt) ∧ (icd 3 u v = true ↔ v.toInt ≤ u.toInt) ∧ (icd 4 u v = true ↔ v.toInt < u.toInt) ∧ (icd 5 u v = true ↔ u.toInt ≤ v.toInt) := by
  refine ⟨?_, ?_, ?_, ?_, ?_, ?_⟩
  · show decide _ = true ↔ _
    rw [decide_eq_true_eq, Int32.toInt_inj]
  · show decide _ = true ↔ _
    rw [decide_eq_true_eq, Int32.toInt_inj]
  · show decide _ = true ↔ _
    rw [decide_eq_true_eq, Int32.lt_iff_toInt_lt]
  · show decide _ = true ↔ _
    rw [decide_eq_true_eq, Int32.le_iff_toInt_le]
  · show decide _ = true ↔ _
    rw [decide_eq_true_eq, Int32.lt_iff_toInt_lt]
  · show decide _ = true ↔ _
    rw [decide_eq_true_eq, Int32.le_iff_toInt_le]
theorem bF {b : Bool} {p : Prop} (h : b = true ↔ p) (hb : b = false) : ¬ p := fun q => by rw [h.mpr q] at hb; cases hb
theorem u_if0 {u : Int32} (h : prun n mi pc lv (.int u :: r) σ = some x) {y : Nat} (hq : pins mi pc = some (16, nx, 0, ((y : Nat) : Int), ts)) : ∃ m, m < n ∧ ((u.toInt = 0 ∧ prun m mi y lv r σ = some x) ∨ (¬ u.toInt = 0 ∧ prun m mi nx lv r σ = some x)) := by
  obtain ⟨m, l, ⟨e, h⟩ | ⟨e, h⟩⟩ := v_if h hq
  · exact ⟨m, l, Or.inl ⟨by have q := (icdE.1).mp e; exact q, h⟩⟩
  · exact ⟨m, l, Or.inr ⟨by have q := bF (icdE.1) e; exact q, h⟩⟩
theorem u_ic0 {u v : Int32} (h : prun n mi pc lv (.int v :: .int u :: r) σ = some x) {y : Nat} (hq : pins mi pc = some (17, nx, 0, ((y : Nat) : Int), ts)) : ∃ m, m < n ∧ ((u.toInt = v.toInt ∧ prun m mi y lv r σ = some x) ∨ (¬ u.toInt = v.toInt ∧ prun m mi nx lv r σ = some x)) := by
  obtain ⟨m, l, ⟨e, h⟩ | ⟨e, h⟩⟩ := v_ic2 h hq
  · exact ⟨m, l, Or.inl ⟨(icdE.1).mp e, h⟩⟩
  · exact ⟨m, l, Or.inr ⟨bF (icdE.1) e, h⟩⟩
theorem u_if1 {u : Int32} (h : prun n mi pc lv (.int u :: r) σ = some x) {y : Nat} (hq : pins mi pc = some (16, nx, 1, ((y : Nat) : Int), ts)) : ∃ m, m < n ∧ ((¬ u.toInt = 0 ∧ prun m mi y lv r σ = some x) ∨ (u.toInt = 0 ∧ prun m mi nx lv r σ = some x)) := by
  obtain ⟨m, l, ⟨e, h⟩ | ⟨e, h⟩⟩ := v_if h hq
  · exact ⟨m, l, Or.inl ⟨by have q := (icdE.2.1).mp e; exact q, h⟩⟩
  · exact ⟨m, l, Or.inr ⟨by have q := Classical.not_not.mp (bF (icdE.2.1) e); exact q, h⟩⟩
theorem u_ic1 {u v : Int32} (h : prun n mi pc lv (.int v :: .int u :: r) σ = some x) {y : Nat} (hq : pins mi pc = some (17, nx, 1, ((y : Nat) : Int), ts)) : ∃ m, m < n ∧ ((¬ u.toInt = v.toInt ∧ prun m mi y lv r σ = some x) ∨ (u.toInt = v.toInt ∧ prun m mi nx lv r σ = some x)) := by
  obtain ⟨m, l, ⟨e, h⟩ | ⟨e, h⟩⟩ := v_ic2 h hq
  · exact ⟨m, l, Or.inl ⟨(icdE.2.1).mp e, h⟩⟩
  · exact ⟨m, l, Or.inr ⟨Classical.not_not.mp (bF (icdE.2.1) e), h⟩⟩
theorem u_if2 {u : Int32} (h : prun n mi pc lv (.int u :: r) σ = some x) {y : Nat} (hq : pins mi pc = some (16, nx, 2, ((y : Nat) : Int), ts)) : ∃ m, m < n ∧ ((u.toInt < 0 ∧ prun m mi y lv r σ = some x) ∨ (0 ≤ u.toInt ∧ prun m mi nx lv r σ = some x)) := by
  obtain ⟨m, l, ⟨e, h⟩ | ⟨e, h⟩⟩ := v_if h hq
  · exact ⟨m, l, Or.inl ⟨by have q := (icdE.2.2.1).mp e; exact q, h⟩⟩
  · exact ⟨m, l, Or.inr ⟨by have q := Int.not_lt.mp (bF (icdE.2.2.1) e); exact q, h⟩⟩
theorem u_ic2 {u v : Int32} (h : prun n mi pc lv (.int v :: .int u :: r) σ = some x) {y : Nat} (hq : pins mi pc = some (17, nx, 2, ((y : Nat) : Int), ts)) : ∃ m, m < n ∧ ((u.toInt < v.toInt ∧ prun m mi y lv r σ = some x) ∨ (v.toInt ≤ u.toInt ∧ prun m mi nx lv r σ = some x)) := by
  obtain ⟨m, l, ⟨e, h⟩ | ⟨e, h⟩⟩ := v_ic2 h hq
  · exact ⟨m, l, Or.inl ⟨(icdE.2.2.1).mp e, h⟩⟩
  · exact ⟨m, l, Or.inr ⟨Int.not_lt.mp (bF (icdE.2.2.1) e), h⟩⟩
theorem u_if3 {u : Int32} (h : prun n mi pc lv (.int u :: r) σ = some x) {y : Nat} (hq : pins mi pc = some (16, nx, 3, ((y : Nat) : Int), ts)) : ∃ m, m < n ∧ ((0 ≤ u.toInt ∧ prun m mi y lv r σ = some x) ∨ (u.toInt < 0 ∧ prun m mi nx lv r σ = some x)) := by
  obtain ⟨m, l, ⟨e, h⟩ | ⟨e, h⟩⟩ := v_if h hq
  · exact ⟨m, l, Or.inl ⟨by have q := (icdE.2.2.2.1).mp e; exact q, h⟩⟩
  · exact ⟨m, l, Or.inr ⟨by have q := Int.not_le.mp (bF (icdE.2.2.2.1) e); exact q, h⟩⟩
theorem u_ic3 {u v : Int32} (h : prun n mi pc lv (.int v :: .int u :: r) σ = some x) {y : Nat} (hq : pins mi pc = some (17, nx, 3, ((y : Nat) : Int), ts)) : ∃ m, m < n ∧ ((v.toInt ≤ u.toInt ∧ prun m mi y lv r σ = some x) ∨ (u.toInt < v.toInt ∧ prun m mi nx lv r σ = some x)) := by
  obtain ⟨m, l, ⟨e, h⟩ | ⟨e, h⟩⟩ := v_ic2 h hq
  · exact ⟨m, l, Or.inl ⟨(icdE.2.2.2.1).mp e, h⟩⟩
  · exact ⟨m, l, Or.inr ⟨Int.not_le.mp (bF (icdE.2.2.2.1) e), h⟩⟩
theorem u_if4 {u : Int32} (h : prun n mi pc lv (.int u :: r) σ = some x) {y : Nat} (hq : pins mi pc = some (16, nx, 4, ((y : Nat) : Int), ts)) : ∃ m, m < n ∧ ((0 < u.toInt ∧ prun m mi y lv r σ = some x) ∨ (u.toInt ≤ 0 ∧ prun m mi nx lv r σ = some x)) := by
  obtain ⟨m, l, ⟨e, h⟩ | ⟨e, h⟩⟩ := v_if h hq
  · exact ⟨m, l, Or.inl ⟨by have q := (icdE.2.2.2.2.1).mp e; exact q, h⟩⟩
  · exact ⟨m, l, Or.inr ⟨by have q := Int.not_lt.mp (bF (icdE.2.2.2.2.1) e); exact q, h⟩⟩
theorem u_ic4 {u v : Int32} (h : prun n mi pc lv (.int v :: .int u :: r) σ = some x) {y : Nat} (hq : pins mi pc = some (17, nx, 4, ((y : Nat) : Int), ts)) : ∃ m, m < n ∧ ((v.toInt < u.toInt ∧ prun m mi y lv r σ = some x) ∨ (u.toInt ≤ v.toInt ∧ prun m mi nx lv r σ = some x)) := by
  obtain ⟨m, l, ⟨e, h⟩ | ⟨e, h⟩⟩ := v_ic2 h hq
  · exact ⟨m, l, Or.inl ⟨(icdE.2.2.2.2.1).mp e, h⟩⟩
  · exact ⟨m, l, Or.inr ⟨Int.not_lt.mp (bF (icdE.2.2.2.2.1) e), h⟩⟩
theorem u_if5 {u : Int32} (h : prun n mi pc lv (.int u :: r) σ = some x) {y : Nat} (hq : pins mi pc = some (16, nx, 5, ((y : Nat) : Int), ts)) : ∃ m, m < n ∧ ((u.toInt ≤ 0 ∧ prun m mi y lv r σ = some x) ∨ (0 < u.toInt ∧ prun m mi nx lv r σ = some x)) := by
  obtain ⟨m, l, ⟨e, h⟩ | ⟨e, h⟩⟩ := v_if h hq
  · exact ⟨m, l, Or.inl ⟨by have q := (icdE.2.2.2.2.2).mp e; exact q, h⟩⟩
  · exact ⟨m, l, Or.inr ⟨by have q := Int.not_le.mp (bF (icdE.2.2.2.2.2) e); exact q, h⟩⟩
theorem u_ic5 {u v : Int32} (h : prun n mi pc lv (.int v :: .int u :: r) σ = some x) {y : Nat} (hq : pins mi pc = some (17, nx, 5, ((y : Nat) : Int), ts)) : ∃ m, m < n ∧ ((u.toInt ≤ v.toInt ∧ prun m mi y lv r σ = some x) ∨ (v.toInt < u.toInt ∧ prun m mi nx lv r σ = some x)) := by
  obtain ⟨m, l, ⟨e, h⟩ | ⟨e, h⟩⟩ := v_ic2 h hq
  · exact ⟨m, l, Or.inl ⟨(icdE.2.2.2.2.2).mp e, h⟩⟩
  · exact ⟨m, l, Or.inr ⟨Int.not_le.mp (bF (icdE.2.2.2.2.2) e), h⟩⟩
theorem lgE (u v : Int64) : (u.toInt < v.toInt ∧ (lg_cmp u v).toInt = -1) ∨ (u.toInt = v.toInt ∧ (lg_cmp u v).toInt = 0) ∨ (v.toInt < u.toInt ∧ (lg_cmp u v).toInt = 1) := by
  unfold lg_cmp
  split
  · rename_i h; exact Or.inr (Or.inr ⟨Int64.lt_iff_toInt_lt.mp h, by decide⟩)
  · rename_i h
    have h : ¬ v.toInt < u.toInt := fun q => h (Int64.lt_iff_toInt_lt.mpr q)
    split
    · rename_i e; exact Or.inr (Or.inl ⟨by rw [e], by decide⟩)
    · rename_i e
      have e : ¬ u.toInt = v.toInt := fun q => e (Int64.toInt_inj.mp q)
      exact Or.inl ⟨by omega, by decide⟩
theorem u_lcmp {u v : Int64} (h : prun n mi pc lv (.long v :: .long u :: r) σ = some x) (hq : pins mi pc = some (12, nx, a, b, ts)) : ∃ m w, m < n ∧ ((u.toInt < v.toInt ∧ w.toInt = -1) ∨ (u.toInt = v.toInt ∧ w.toInt = 0) ∨ (v.toInt < u.toInt ∧ w.toInt = 1)) ∧ prun m mi nx lv (.int w :: r) σ = some x := by
  obtain ⟨m, l, h⟩ := v_lcmp h hq
  exact ⟨m, _, l, lgE u v, h⟩
theorem u_i2l {u : Int32} (h : prun n mi pc lv (.int u :: r) σ = some x) (hq : pins mi pc = some (13, nx, a, b, ts)) : ∃ m w, m < n ∧ w = u.toInt64 ∧ prun m mi nx lv (.long w :: r) σ = some x := by
  obtain ⟨m, l, h⟩ := v_i2l h hq
  exact ⟨m, _, l, rfl, h⟩
theorem u_l2i {u : Int64} (h : prun n mi pc lv (.long u :: r) σ = some x) (hq : pins mi pc = some (14, nx, a, b, ts)) : ∃ m w, m < n ∧ w = u.toInt32 ∧ prun m mi nx lv (.int w :: r) σ = some x := by
  obtain ⟨m, l, h⟩ := v_l2i h hq
  exact ⟨m, _, l, rfl, h⟩
theorem u_ic {a : Int} (h : prun n mi pc lv r σ = some x) (hq : pins mi pc = some (0, nx, a, b, ts)) (ha : inR a = true) : ∃ m w, m < n ∧ (w = Int32.ofInt a ∧ w.toInt = a) ∧ prun m mi nx lv (.int w :: r) σ = some x := by
  obtain ⟨m, l, h⟩ := v_ic h hq
  unfold inR at ha
  obtain ⟨a1, a2⟩ := kN ha
  rw [decide_eq_true_eq] at a1 a2
  exact ⟨m, _, l, ⟨rfl, n_ofInt a1 a2⟩, h⟩
theorem u_lc {a : Int} (h : prun n mi pc lv r σ = some x) (hq : pins mi pc = some (1, nx, a, b, ts)) : ∃ m w, m < n ∧ w = Int64.ofInt a ∧ prun m mi nx lv (.long w :: r) σ = some x := by
  obtain ⟨m, l, h⟩ := v_lc h hq
  exact ⟨m, _, l, rfl, h⟩
theorem u_inc {v : Int32} {b : Int} (h : prun n mi pc lv r σ = some x) (hq : pins mi pc = some (9, nx, a, b, ts)) (hv : plk lv a.toNat = some (.int v)) : ∃ m w, m < n ∧ w = v + Int32.ofInt b ∧ prun m mi nx (pst1 lv a.toNat (.int w)) r σ = some x := by
  obtain ⟨m, l, h⟩ := v_inc h hq hv
  exact ⟨m, _, l, rfl, h⟩
theorem u_ret37 (h : prun n mi pc lv [] σ = some x) (hq : pins mi pc = some (37, nx, a, b, ts)) : x = (none, σ) := by
  cases hp : pret (rt mi) (37, nx, a, b, ts) [] with
  | some r =>
    have e := pinv_ret h hq (fun e => absurd (show (37 : Nat) = 36 from e) (by decide)) hp
    have hp : (if (rt mi).isNone then some none else none) = some r := hp
    split at hp
    · cases hp; exact e
    · cases hp
  | none =>
    exfalso
    cases n with
    | zero => cases h
    | succ n =>
      unfold prun at h
      rw [hq] at h
      simp only at h
      rw [if_neg (by decide), hp] at h
      have h : (none : Option (Option Value × ps)) = some x := h
      cases h
theorem u_ret38 {v : Int32} (h : prun n mi pc lv [.int v] σ = some x) (hq : pins mi pc = some (38, nx, a, b, ts)) : x = (some (.int v), σ) := by
  cases hp : pret (rt mi) (38, nx, a, b, ts) [.int v] with
  | some r =>
    have e := pinv_ret h hq (fun e => absurd (show (38 : Nat) = 36 from e) (by decide)) hp
    have hp : (if pnarO (rt mi) v then some (some (.int v)) else none) = some r := hp
    split at hp
    · cases hp; exact e
    · cases hp
  | none =>
    exfalso
    cases n with
    | zero => cases h
    | succ n =>
      unfold prun at h
      rw [hq] at h
      simp only at h
      rw [if_neg (by decide), hp] at h
      have h : (none : Option (Option Value × ps)) = some x := h
      cases h
theorem u_ret39 {v : Int64} (h : prun n mi pc lv [.long v] σ = some x) (hq : pins mi pc = some (39, nx, a, b, ts)) : x = (some (.long v), σ) := by
  cases hp : pret (rt mi) (39, nx, a, b, ts) [.long v] with
  | some r =>
    have e := pinv_ret h hq (fun e => absurd (show (39 : Nat) = 36 from e) (by decide)) hp
    have hp : (if isLong (rt mi) then some (some (.long v)) else none) = some r := hp
    split at hp
    · cases hp; exact e
    · cases hp
  | none =>
    exfalso
    cases n with
    | zero => cases h
    | succ n =>
      unfold prun at h
      rw [hq] at h
      simp only at h
      rw [if_neg (by decide), hp] at h
      have h : (none : Option (Option Value × ps)) = some x := h
      cases h
theorem u_go (h : prun n mi pc lv r σ = some x) {y : Nat} (hq : pins mi pc = some (20, nx, a, ((y : Nat) : Int), ts)) : ∃ m, m < n ∧ prun m mi y lv r σ = some x := v_go h hq
end UO
