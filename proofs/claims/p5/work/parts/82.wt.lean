/-- the reference's object, typed -/
def WT (Z : Nat → Prop) (t : Nat) (A : Nat → Nat) (σ : ps) : Prop := Typed Z σ ∧ (∀ a ∈ sL σ, a < σ.1) ∧ Z t ∧ sK σ t = 13 ∧ Wld t A σ ∧ (∀ j, isRw j = true → Z (A j)) ∧ JU σ
theorem ety_int : ∀ k, k < 68 → isRw k = true → ¬ (rk (40 + k)).1 = 2 → (ety (40 + k)).1 = 0 := by decide +kernel
theorem ety_lng : ∀ k, k < 68 → isRw k = true → (rk (40 + k)).1 = 2 → (ety (40 + k)).1 = 1 ∧ wrow (40 + k) = false ∧ ¬ 40 + k = 92 := by decide +kernel
theorem aI_z (lo hi : Int) : (aI lo hi).1 = 0 := by unfold aI; split <;> rfl
theorem fty_int {k i : Nat} (hk : isRw k = true) (h : ¬ (rk (40 + k)).1 = 2) : (fty (40 + k) i).1 = 0 := by
  unfold fty
  rw [if_neg (by omega)]
  split
  · exact aI_z _ _
  · split
    · exact aI_z _ _
    · exact ety_int k (isRw_lt hk) hk h
section WTS
variable {Z : Nat → Prop} {t : Nat} {A : Nat → Nat} {σ : ps}
theorem WT.W (W : WT Z t A σ) : Wld t A σ := W.2.2.2.2.1
theorem WT.mem (W : WT Z t A σ) : t ∈ sL σ := (W.1 t W.2.2.1).1
theorem WT.rm (W : WT Z t A σ) {j : Nat} (hj : isRw j = true) : A j ∈ sL σ := (W.1 (A j) (W.2.2.2.2.2.1 j hj)).1
theorem WT.ri (W : WT Z t A σ) {j i : Nat} (hj : isRw j = true) (h2 : ¬ (rk (40 + j)).1 = 2) (hi : (i : Int) < szR j) : vw t A σ j i = .int (gI (vw t A σ) j i) ∧ (fty (40 + j) i).2.1 ≤ (gI (vw t A σ) j i).toInt ∧ (gI (vw t A σ) j i).toInt ≤ (fty (40 + j) i).2.2.1 := by
  have h := vw_ty W.1 W.W W.2.2.2.2.2.1 hj hi
  obtain ⟨x, e, h1, h3, _⟩ := h.i (fty_int hj h2)
  have : gI (vw t A σ) j i = x := by unfold gI; rw [e]; rfl
  rw [this]
  exact ⟨e, h1, h3⟩
theorem WT.fi (W : WT Z t A σ) {j i : Nat} (hj : isIn j = true) : vw t A σ j i = .int (gI (vw t A σ) j i) ∧ (fty 13 j).2.1 ≤ (gI (vw t A σ) j i).toInt ∧ (gI (vw t A σ) j i).toInt ≤ (fty 13 j).2.2.1 := by
  have h := vw_tyf (A := A) W.1 W.2.2.1 W.2.2.2.1 (isIn_rw hj) (isIn_lt hj) (i := i)
  obtain ⟨x, e, h1, h3, _⟩ := h.i (in_fty j (isIn_lt hj) hj)
  have : gI (vw t A σ) j i = x := by unfold gI; rw [e]; rfl
  rw [this]
  exact ⟨e, h1, h3⟩
theorem WT.st {σ' : ps} {Z' : Nat → Prop} (W : WT Z t A σ) (S : SP t A σ σ') (T : Typed Z' σ') (zz : ∀ a, Z a → Z' a) : WT Z' t A σ' := ⟨T, by rw [S.2.1, S.2.2.2.1]; exact W.2.1, zz _ W.2.2.1, by rw [S.2.2.1]; exact W.2.2.2.1, S.1, fun j hj => zz _ (W.2.2.2.2.2.1 j hj), JU.st S W.2.2.2.2.2.2⟩
/-- a store into a row -/
theorem WT.row (W : WT Z t A σ) {k i : Nat} {v : Value} (hk : isRw k = true) (ok : okA Z (sL σ) (sK σ) (fty (40 + k) i) v) : WT Z t A (sPut σ (A k) i v) := W.st (SP.row W.W k i v) (Typed.put W.1 (fun _ => by rw [(W.W.2.2.1 k hk).2]; exact ok)) (fun _ h => h)
theorem WT.fld (W : WT Z t A σ) {k : Nat} {v : Int32} (hk : isIn k = true) (ok : okA Z (sL σ) (sK σ) (fty 13 k) (.int v)) : WT Z t A (sPut σ t k (.int v)) := W.st (SP.fld W.W hk v) (Typed.put W.1 (fun _ => by rw [W.2.2.2.1]; exact ok)) (fun _ h => h)
variable {mi pc nx : Nat} {lv : LV} {r : List Value} {P : Option Value → ps → Prop} {a b : Int} {ts : List Nat} {k : Nat}
theorem WT.isp (W : WT Z t A σ) : pis σ t 13 = true := by
  unfold pis
  rw [W.2.2.2.1, decide_eq_true W.mem]
  decide
theorem y_row (W : WT Z t A σ) (hq : pins mi pc = some (22, nx, 13, ((k : Nat) : Int), ts)) (hk : isRw k = true) (h : wp mi nx lv (.ref (A k) :: r) σ P) : wp mi pc lv (.ref t :: r) σ P := x_get hq W.mem W.2.2.2.1 (W.W.2.2.1 k hk).1 h
theorem y_fi (W : WT Z t A σ) (hq : pins mi pc = some (22, nx, 13, ((k : Nat) : Int), ts)) (hk : isIn k = true) (h : ∀ w, w = gI (vw t A σ) k 0 → ((fty 13 k).2.1 ≤ w.toInt ∧ w.toInt ≤ (fty 13 k).2.2.1) → wp mi nx lv (.int w :: r) σ P) : wp mi pc lv (.ref t :: r) σ P := by
  obtain ⟨e, h1⟩ := W.fi hk (i := 0)
  refine x_get hq W.mem W.2.2.2.1 (v := .int (gI (vw t A σ) k 0)) ?_ (h _ rfl h1)
  rw [← e]
  unfold vw
  rw [isIn_rw hk, if_neg (by decide)]
theorem y_fl (W : WT Z t A σ) (hq : pins mi pc = some (22, nx, 13, 0, ts)) (h : ∀ w, w = gL (vw t A σ) 0 0 → wp mi nx lv (.long w :: r) σ P) : wp mi pc lv (.ref t :: r) σ P := by
  obtain ⟨w, hw⟩ := W.W.2.2.2.2
  refine x_get (k := 0) hq W.mem W.2.2.2.1 hw (h w ?_)
  unfold gL vw
  rw [show isRw 0 = false from rfl, if_neg (by decide), hw]
  rfl
theorem y_pin (W : WT Z t A σ) {i : Int32} (hk : isRw k = true) (hb : 0 ≤ i.toInt ∧ i.toInt < szR k) : pin i (rk (sK σ (A k))).2 = true := by
  rw [(W.W.2.2.1 k hk).2]
  exact n_pin hb.1 hb.2
theorem y_isR (W : WT Z t A σ) (hk : isRw k = true) {c : Nat} (hc : (rk (40 + k)).1 = c) : isRow σ (A k) c = true := by
  unfold isRow
  rw [(W.W.2.2.1 k hk).2, hc, decide_eq_true (W.rm hk), decide_eq_true (by omega : 14 ≤ 40 + k)]
  simp
theorem y_iald {i : Int32} (W : WT Z t A σ) (hq : pins mi pc = some (24, nx, a, b, ts)) (hk : isRw k = true) (hc : (rk (40 + k)).1 = 1) (hb : 0 ≤ i.toInt ∧ i.toInt < szR k) (h : ∀ w, w = gI (vw t A σ) k i.toNatClampNeg → ((fty (40 + k) i.toNatClampNeg).2.1 ≤ w.toInt ∧ w.toInt ≤ (fty (40 + k) i.toNatClampNeg).2.2.1) → wp mi nx lv (.int w :: r) σ P) : wp mi pc lv (.int i :: .ref (A k) :: r) σ P := by
  obtain ⟨e, h1⟩ := W.ri hk (by rw [hc]; decide) (i := i.toNatClampNeg) (by rw [n_clamp hb.1]; exact hb.2)
  refine wp_step hq (fun e => absurd (show (24 : Nat) = 36 from e) (by decide)) (pret_none (fun e => absurd (show 37 ≤ (24 : Nat) ∧ (24 : Nat) ≤ 40 from e) (by decide))) ?_ (h _ rfl h1)
  show f_iald (24, nx, a, b, ts) lv (.int i :: .ref (A k) :: r) σ = _
  unfold f_iald
  simp only
  rw [y_isR W hk hc, y_pin W hk hb]
  have e2 : sV σ (A k) i.toNatClampNeg = .int (gI (vw t A σ) k i.toNatClampNeg) := by
    rw [← e]; unfold vw; rw [if_pos hk]
  simp only [Bool.and_self, if_true]
  rw [e2]
theorem y_bald {i : Int32} (W : WT Z t A σ) (hq : pins mi pc = some (25, nx, a, b, ts)) (hk : isRw k = true) (hc : (rk (40 + k)).1 = 3) (hb : 0 ≤ i.toInt ∧ i.toInt < szR k) (h : ∀ w, w = gI (vw t A σ) k i.toNatClampNeg → ((fty (40 + k) i.toNatClampNeg).2.1 ≤ w.toInt ∧ w.toInt ≤ (fty (40 + k) i.toNatClampNeg).2.2.1) → wp mi nx lv (.int w :: r) σ P) : wp mi pc lv (.int i :: .ref (A k) :: r) σ P := by
  obtain ⟨e, h1⟩ := W.ri hk (by rw [hc]; decide) (i := i.toNatClampNeg) (by rw [n_clamp hb.1]; exact hb.2)
  refine wp_step hq (fun e => absurd (show (25 : Nat) = 36 from e) (by decide)) (pret_none (fun e => absurd (show 37 ≤ (25 : Nat) ∧ (25 : Nat) ≤ 40 from e) (by decide))) ?_ (h _ rfl h1)
  show f_bald (25, nx, a, b, ts) lv (.int i :: .ref (A k) :: r) σ = _
  unfold f_bald
  simp only
  rw [y_isR W hk hc, y_pin W hk hb]
  have e2 : sV σ (A k) i.toNatClampNeg = .int (gI (vw t A σ) k i.toNatClampNeg) := by
    rw [← e]; unfold vw; rw [if_pos hk]
  simp only [Bool.and_self, Bool.or_true, if_true]
  rw [e2]
theorem y_iast {i v : Int32} (W : WT Z t A σ) (hq : pins mi pc = some (28, nx, a, b, ts)) (hk : isRw k = true) (hc : (rk (40 + k)).1 = 1) (hb : 0 ≤ i.toInt ∧ i.toInt < szR k) (ok : okA Z (sL σ) (sK σ) (fty (40 + k) i.toNatClampNeg) (.int v)) (h : ∀ σ', WT Z t A σ' → SP t A σ σ' → vw t A σ' = up (vw t A σ) k i.toNatClampNeg (.int v) → wp mi nx lv r σ' P) : wp mi pc lv (.int v :: .int i :: .ref (A k) :: r) σ P := by
  refine wp_step hq (fun e => absurd (show (28 : Nat) = 36 from e) (by decide)) (pret_none (fun e => absurd (show 37 ≤ (28 : Nat) ∧ (28 : Nat) ≤ 40 from e) (by decide))) ?_ (h _ (W.row hk ok) (SP.row W.W k _ _) (vw_row W.W hk _ _))
  show f_iast (28, nx, a, b, ts) lv (.int v :: .int i :: .ref (A k) :: r) σ = _
  unfold f_iast
  simp only
  rw [y_isR W hk hc, y_pin W hk hb]
  rfl
theorem y_put {v : Int32} (W : WT Z t A σ) (hq : pins mi pc = some (23, nx, 13, ((k : Nat) : Int), ts)) (hk : isIn k = true) (hf : pfit (tyS 13 k) (.int v) = true) (ok : okA Z (sL σ) (sK σ) (fty 13 k) (.int v)) (h : ∀ σ', WT Z t A σ' → SP t A σ σ' → vw t A σ' = up (vw t A σ) k 0 (.int v) → wp mi nx lv r σ' P) : wp mi pc lv (.int v :: .ref t :: r) σ P :=
  x_put hq W.mem W.2.2.2.1 hf (h _ (W.fld hk ok) (SP.fld W.W hk v) (vw_fld W.W (isIn_rw hk) _))
end WTS
section YO
variable {mi pc nx : Nat} {lv : LV} {r : List Value} {σ : ps} {P : Option Value → ps → Prop} {a b : Int} {ts : List Nat}
theorem y_ic {a : Int} (hq : pins mi pc = some (0, nx, a, b, ts)) (ha : inR a = true) (h : ∀ w : Int32, w = Int32.ofInt a → w.toInt = a → wp mi nx lv (.int w :: r) σ P) : wp mi pc lv r σ P := by
  unfold inR at ha
  obtain ⟨a1, a2⟩ := kN ha
  rw [decide_eq_true_eq] at a1 a2
  exact x_ic hq rfl (h _ rfl (n_ofInt a1 a2))
theorem y_lc {a : Int} (hq : pins mi pc = some (1, nx, a, b, ts)) (h : ∀ w : Int64, w = Int64.ofInt a → wp mi nx lv (.long w :: r) σ P) : wp mi pc lv r σ P :=
  wp_step hq (fun e => absurd (show (1 : Nat) = 36 from e) (by decide)) (pret_none (fun e => absurd (show 37 ≤ (1 : Nat) ∧ (1 : Nat) ≤ 40 from e) (by decide))) rfl (h _ rfl)
theorem y_ll {v : Int64} (hq : pins mi pc = some (4, nx, a, b, ts)) (hv : plk lv a.toNat = some (.long v)) (h : wp mi nx lv (.long v :: r) σ P) : wp mi pc lv r σ P := by
  refine wp_step hq (fun e => absurd (show (4 : Nat) = 36 from e) (by decide)) (pret_none (fun e => absurd (show 37 ≤ (4 : Nat) ∧ (4 : Nat) ≤ 40 from e) (by decide))) ?_ h
  show f_lload (4, nx, a, b, ts) lv r σ = _
  unfold f_lload
  simp only
  rw [hv]
theorem y_ls {v : Int64} (hq : pins mi pc = some (7, nx, a, b, ts)) (h : wp mi nx (pst2 lv a.toNat (.long v)) r σ P) : wp mi pc lv (.long v :: r) σ P := wp_step hq (fun e => absurd (show (7 : Nat) = 36 from e) (by decide)) (pret_none (fun e => absurd (show 37 ≤ (7 : Nat) ∧ (7 : Nat) ≤ 40 from e) (by decide))) rfl h
theorem y_inc {v : Int32} {b : Int} (hq : pins mi pc = some (9, nx, a, b, ts)) (hv : plk lv a.toNat = some (.int v)) (h : ∀ w, w = v + Int32.ofInt b → wp mi nx (pst1 lv a.toNat (.int w)) r σ P) : wp mi pc lv r σ P := x_inc hq hv rfl (h _ rfl)
theorem y_lcmp {u v : Int64} (hq : pins mi pc = some (12, nx, a, b, ts)) (h : ∀ w : Int32, ((u.toInt < v.toInt ∧ w.toInt = -1) ∨ (u.toInt = v.toInt ∧ w.toInt = 0) ∨ (v.toInt < u.toInt ∧ w.toInt = 1)) → wp mi nx lv (.int w :: r) σ P) : wp mi pc lv (.long v :: .long u :: r) σ P :=
  wp_step hq (fun e => absurd (show (12 : Nat) = 36 from e) (by decide)) (pret_none (fun e => absurd (show 37 ≤ (12 : Nat) ∧ (12 : Nat) ≤ 40 from e) (by decide))) rfl (h _ (lgE u v))
theorem y_i2l {u : Int32} (hq : pins mi pc = some (13, nx, a, b, ts)) (h : ∀ w : Int64, w = u.toInt64 → wp mi nx lv (.long w :: r) σ P) : wp mi pc lv (.int u :: r) σ P :=
  wp_step hq (fun e => absurd (show (13 : Nat) = 36 from e) (by decide)) (pret_none (fun e => absurd (show 37 ≤ (13 : Nat) ∧ (13 : Nat) ≤ 40 from e) (by decide))) rfl (h _ rfl)
theorem y_l2i {u : Int64} (hq : pins mi pc = some (14, nx, a, b, ts)) (h : ∀ w : Int32, w = u.toInt32 → wp mi nx lv (.int w :: r) σ P) : wp mi pc lv (.long u :: r) σ P :=
  wp_step hq (fun e => absurd (show (14 : Nat) = 36 from e) (by decide)) (pret_none (fun e => absurd (show 37 ≤ (14 : Nat) ∧ (14 : Nat) ≤ 40 from e) (by decide))) rfl (h _ rfl)
theorem y_dup {v : Value} (hq : pins mi pc = some (34, nx, a, b, ts)) (hc : v.category = 1) (h : wp mi nx lv (v :: v :: r) σ P) : wp mi pc lv (v :: r) σ P := by
  refine wp_step hq (fun e => absurd (show (34 : Nat) = 36 from e) (by decide)) (pret_none (fun e => absurd (show 37 ≤ (34 : Nat) ∧ (34 : Nat) ≤ 40 from e) (by decide))) ?_ h
  show f_dup (34, nx, a, b, ts) lv (v :: r) σ = _
  unfold f_dup
  simp only
  rw [if_pos hc]
theorem y_dup2 {v w : Value} (hq : pins mi pc = some (35, nx, a, b, ts)) (hc : v.category = 1 ∧ w.category = 1) (h : wp mi nx lv (v :: w :: v :: w :: r) σ P) : wp mi pc lv (v :: w :: r) σ P := by
  refine wp_step hq (fun e => absurd (show (35 : Nat) = 36 from e) (by decide)) (pret_none (fun e => absurd (show 37 ≤ (35 : Nat) ∧ (35 : Nat) ≤ 40 from e) (by decide))) ?_ h
  show f_dup2 (35, nx, a, b, ts) lv (v :: w :: r) σ = _
  unfold f_dup2
  simp only
  rw [if_pos hc]
theorem y_ret37 (hq : pins mi pc = some (37, nx, a, b, ts)) (ht : (rt mi).isNone = true) (h : P none σ) : wp mi pc lv [] σ P := by
  refine wp_ret hq (fun e => absurd (show (37 : Nat) = 36 from e) (by decide)) (r := none) ?_ h
  show (if (rt mi).isNone then some none else none) = _
  rw [ht]
  rfl
theorem wp_lv {lv' : LV} {st : List Value} (h : wp mi pc lv st σ P) (hL : lvLe lv lv') (n1 : (lv.map (·.1)).Nodup) (n2 : (lv'.map (·.1)).Nodup) : wp mi pc lv' st σ P := by
  obtain ⟨n, r, σ', h1, h2⟩ := h
  exact ⟨n, r, σ', prun_lv h1 hL n1 n2, h2⟩
theorem y_add {u v : Int32} (hq : pins mi pc = some (10, nx, 0, b, ts)) (h : ∀ w : Int32, w = u + v → wp mi nx lv (.int w :: r) σ P) : wp mi pc lv (.int v :: .int u :: r) σ P :=
  wp_step hq (fun e => absurd (show (10 : Nat) = 36 from e) (by decide)) (pret_none (fun e => absurd (show 37 ≤ (10 : Nat) ∧ (10 : Nat) ≤ 40 from e) (by decide))) rfl (h _ rfl)
theorem y_sub {u v : Int32} (hq : pins mi pc = some (10, nx, 1, b, ts)) (h : ∀ w : Int32, w = u - v → wp mi nx lv (.int w :: r) σ P) : wp mi pc lv (.int v :: .int u :: r) σ P :=
  wp_step hq (fun e => absurd (show (10 : Nat) = 36 from e) (by decide)) (pret_none (fun e => absurd (show 37 ≤ (10 : Nat) ∧ (10 : Nat) ≤ 40 from e) (by decide))) rfl (h _ rfl)
theorem y_mul {u v : Int32} (hq : pins mi pc = some (10, nx, 2, b, ts)) (h : ∀ w : Int32, w = u * v → wp mi nx lv (.int w :: r) σ P) : wp mi pc lv (.int v :: .int u :: r) σ P :=
  wp_step hq (fun e => absurd (show (10 : Nat) = 36 from e) (by decide)) (pret_none (fun e => absurd (show 37 ≤ (10 : Nat) ∧ (10 : Nat) ≤ 40 from e) (by decide))) rfl (h _ rfl)
theorem y_rem {u v : Int32} (hq : pins mi pc = some (10, nx, 4, b, ts)) (hv : ¬ v = 0) (h : ∀ w : Int32, w = u - u / v * v → wp mi nx lv (.int w :: r) σ P) : wp mi pc lv (.int v :: .int u :: r) σ P := by
  refine wp_step hq (fun e => absurd (show (10 : Nat) = 36 from e) (by decide)) (pret_none (fun e => absurd (show 37 ≤ (10 : Nat) ∧ (10 : Nat) ≤ 40 from e) (by decide))) ?_ (h _ rfl)
  show f_iop (10, nx, 4, b, ts) lv (.int v :: .int u :: r) σ = _
  unfold f_iop
  have e : iop 4 u v = some (u - u / v * v) := by show (if v = 0 then none else some (u - u / v * v)) = _; rw [if_neg hv]
  simp only
  rw [e]
theorem y_ladd {u v : Int64} (hq : pins mi pc = some (11, nx, 0, b, ts)) (h : ∀ w : Int64, w = u + v → wp mi nx lv (.long w :: r) σ P) : wp mi pc lv (.long v :: .long u :: r) σ P :=
  wp_step hq (fun e => absurd (show (11 : Nat) = 36 from e) (by decide)) (pret_none (fun e => absurd (show 37 ≤ (11 : Nat) ∧ (11 : Nat) ≤ 40 from e) (by decide))) rfl (h _ rfl)
theorem y_if0 {u : Int32} {y : Nat} (hq : pins mi pc = some (16, nx, 0, ((y : Nat) : Int), ts)) (h1 : u.toInt = 0 → wp mi y lv r σ P) (h2 : ¬ u.toInt = 0 → wp mi nx lv r σ P) : wp mi pc lv (.int u :: r) σ P :=
  x_if0T hq (fun e => h1 (by have q := (icdE.1).mp e; exact q)) (fun e => h2 (by have q := bF (icdE.1) e; exact q))
theorem y_ic0 {u v : Int32} {y : Nat} (hq : pins mi pc = some (17, nx, 0, ((y : Nat) : Int), ts)) (h1 : u.toInt = v.toInt → wp mi y lv r σ P) (h2 : ¬ u.toInt = v.toInt → wp mi nx lv r σ P) : wp mi pc lv (.int v :: .int u :: r) σ P := by
  cases e : icd 0 u v with
  | true => exact x_icT hq e (h1 ((icdE.1).mp e))
  | false => exact x_icF hq e (h2 (bF (icdE.1) e))
theorem y_if1 {u : Int32} {y : Nat} (hq : pins mi pc = some (16, nx, 1, ((y : Nat) : Int), ts)) (h1 : ¬ u.toInt = 0 → wp mi y lv r σ P) (h2 : u.toInt = 0 → wp mi nx lv r σ P) : wp mi pc lv (.int u :: r) σ P :=
  x_if0T hq (fun e => h1 (by have q := (icdE.2.1).mp e; exact q)) (fun e => h2 (by have q := Classical.not_not.mp (bF (icdE.2.1) e); exact q))
theorem y_ic1 {u v : Int32} {y : Nat} (hq : pins mi pc = some (17, nx, 1, ((y : Nat) : Int), ts)) (h1 : ¬ u.toInt = v.toInt → wp mi y lv r σ P) (h2 : u.toInt = v.toInt → wp mi nx lv r σ P) : wp mi pc lv (.int v :: .int u :: r) σ P := by
  cases e : icd 1 u v with
  | true => exact x_icT hq e (h1 ((icdE.2.1).mp e))
  | false => exact x_icF hq e (h2 (Classical.not_not.mp (bF (icdE.2.1) e)))
theorem y_if2 {u : Int32} {y : Nat} (hq : pins mi pc = some (16, nx, 2, ((y : Nat) : Int), ts)) (h1 : u.toInt < 0 → wp mi y lv r σ P) (h2 : 0 ≤ u.toInt → wp mi nx lv r σ P) : wp mi pc lv (.int u :: r) σ P :=
  x_if0T hq (fun e => h1 (by have q := (icdE.2.2.1).mp e; exact q)) (fun e => h2 (by have q := Int.not_lt.mp (bF (icdE.2.2.1) e); exact q))
theorem y_ic2 {u v : Int32} {y : Nat} (hq : pins mi pc = some (17, nx, 2, ((y : Nat) : Int), ts)) (h1 : u.toInt < v.toInt → wp mi y lv r σ P) (h2 : v.toInt ≤ u.toInt → wp mi nx lv r σ P) : wp mi pc lv (.int v :: .int u :: r) σ P := by
  cases e : icd 2 u v with
  | true => exact x_icT hq e (h1 ((icdE.2.2.1).mp e))
  | false => exact x_icF hq e (h2 (Int.not_lt.mp (bF (icdE.2.2.1) e)))
theorem y_if3 {u : Int32} {y : Nat} (hq : pins mi pc = some (16, nx, 3, ((y : Nat) : Int), ts)) (h1 : 0 ≤ u.toInt → wp mi y lv r σ P) (h2 : u.toInt < 0 → wp mi nx lv r σ P) : wp mi pc lv (.int u :: r) σ P :=
  x_if0T hq (fun e => h1 (by have q := (icdE.2.2.2.1).mp e; exact q)) (fun e => h2 (by have q := Int.not_le.mp (bF (icdE.2.2.2.1) e); exact q))
theorem y_ic3 {u v : Int32} {y : Nat} (hq : pins mi pc = some (17, nx, 3, ((y : Nat) : Int), ts)) (h1 : v.toInt ≤ u.toInt → wp mi y lv r σ P) (h2 : u.toInt < v.toInt → wp mi nx lv r σ P) : wp mi pc lv (.int v :: .int u :: r) σ P := by
  cases e : icd 3 u v with
  | true => exact x_icT hq e (h1 ((icdE.2.2.2.1).mp e))
  | false => exact x_icF hq e (h2 (Int.not_le.mp (bF (icdE.2.2.2.1) e)))
theorem y_if4 {u : Int32} {y : Nat} (hq : pins mi pc = some (16, nx, 4, ((y : Nat) : Int), ts)) (h1 : 0 < u.toInt → wp mi y lv r σ P) (h2 : u.toInt ≤ 0 → wp mi nx lv r σ P) : wp mi pc lv (.int u :: r) σ P :=
  x_if0T hq (fun e => h1 (by have q := (icdE.2.2.2.2.1).mp e; exact q)) (fun e => h2 (by have q := Int.not_lt.mp (bF (icdE.2.2.2.2.1) e); exact q))
theorem y_ic4 {u v : Int32} {y : Nat} (hq : pins mi pc = some (17, nx, 4, ((y : Nat) : Int), ts)) (h1 : v.toInt < u.toInt → wp mi y lv r σ P) (h2 : u.toInt ≤ v.toInt → wp mi nx lv r σ P) : wp mi pc lv (.int v :: .int u :: r) σ P := by
  cases e : icd 4 u v with
  | true => exact x_icT hq e (h1 ((icdE.2.2.2.2.1).mp e))
  | false => exact x_icF hq e (h2 (Int.not_lt.mp (bF (icdE.2.2.2.2.1) e)))
theorem y_if5 {u : Int32} {y : Nat} (hq : pins mi pc = some (16, nx, 5, ((y : Nat) : Int), ts)) (h1 : u.toInt ≤ 0 → wp mi y lv r σ P) (h2 : 0 < u.toInt → wp mi nx lv r σ P) : wp mi pc lv (.int u :: r) σ P :=
  x_if0T hq (fun e => h1 (by have q := (icdE.2.2.2.2.2).mp e; exact q)) (fun e => h2 (by have q := Int.not_le.mp (bF (icdE.2.2.2.2.2) e); exact q))
theorem y_ic5 {u v : Int32} {y : Nat} (hq : pins mi pc = some (17, nx, 5, ((y : Nat) : Int), ts)) (h1 : u.toInt ≤ v.toInt → wp mi y lv r σ P) (h2 : v.toInt < u.toInt → wp mi nx lv r σ P) : wp mi pc lv (.int v :: .int u :: r) σ P := by
  cases e : icd 5 u v with
  | true => exact x_icT hq e (h1 ((icdE.2.2.2.2.2).mp e))
  | false => exact x_icF hq e (h2 (Int.not_le.mp (bF (icdE.2.2.2.2.2) e)))
end YO
