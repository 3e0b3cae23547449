def stL (q : PI) : Bool := q.1 == 6 || (q.1 == 7 || (q.1 == 8 || q.1 == 9))
def brL (q : PI) : Bool := q.1 == 16 || (q.1 == 17 || (q.1 == 18 || (q.1 == 19 || (q.1 == 20 || q.1 == 21))))
/-- where an instruction goes, and what becomes of the locals -/
def NxL (q : PI) (lv : LV) (pc' : Nat) (lv' : LV) : Prop := (brL q = false → pc' = q.2.1) ∧ (brL q = true → q.1 = 21 ∨ pc' = q.2.1 ∨ pc' = q.2.2.2.1.toNat) ∧ (stL q = false → lv' = lv) ∧ (stL q = true → ∃ v, lv' = pst1 lv q.2.2.1.toNat v ∨ (q.1 = 7 ∧ lv' = pst2 lv q.2.2.1.toNat v))
theorem nx_f_iload {nx : Nat} {a b : Int} {ts : List Nat} {lv lv' : LV} {st st' : List Value} {σ σ' : ps} {pc' : Nat} (h : f_iload (3, nx, a, b, ts) lv st σ = some (pc', lv', st', σ')) : NxL (3, nx, a, b, ts) lv pc' lv' := by
  unfold f_iload at h
  repeat' split at h
  all_goals first | (cases h; done) | (cases h; exact ⟨fun _ => rfl, fun e => absurd e (show ¬ false = true by decide), fun _ => rfl, fun e => absurd e (show ¬ false = true by decide)⟩)
theorem nx_f_lload {nx : Nat} {a b : Int} {ts : List Nat} {lv lv' : LV} {st st' : List Value} {σ σ' : ps} {pc' : Nat} (h : f_lload (4, nx, a, b, ts) lv st σ = some (pc', lv', st', σ')) : NxL (4, nx, a, b, ts) lv pc' lv' := by
  unfold f_lload at h
  repeat' split at h
  all_goals first | (cases h; done) | (cases h; exact ⟨fun _ => rfl, fun e => absurd e (show ¬ false = true by decide), fun _ => rfl, fun e => absurd e (show ¬ false = true by decide)⟩)
theorem nx_f_aload {nx : Nat} {a b : Int} {ts : List Nat} {lv lv' : LV} {st st' : List Value} {σ σ' : ps} {pc' : Nat} (h : f_aload (5, nx, a, b, ts) lv st σ = some (pc', lv', st', σ')) : NxL (5, nx, a, b, ts) lv pc' lv' := by
  unfold f_aload at h
  repeat' split at h
  all_goals first | (cases h; done) | (cases h; exact ⟨fun _ => rfl, fun e => absurd e (show ¬ false = true by decide), fun _ => rfl, fun e => absurd e (show ¬ false = true by decide)⟩)
theorem nx_f_istore {nx : Nat} {a b : Int} {ts : List Nat} {lv lv' : LV} {st st' : List Value} {σ σ' : ps} {pc' : Nat} (h : f_istore (6, nx, a, b, ts) lv st σ = some (pc', lv', st', σ')) : NxL (6, nx, a, b, ts) lv pc' lv' := by
  unfold f_istore at h
  repeat' split at h
  all_goals first | (cases h; done) | (cases h; exact ⟨fun _ => rfl, fun e => absurd e (show ¬ false = true by decide), fun e => absurd e (show ¬ true = false by decide), fun _ => ⟨_, Or.inl rfl⟩⟩)
theorem nx_f_lstore {nx : Nat} {a b : Int} {ts : List Nat} {lv lv' : LV} {st st' : List Value} {σ σ' : ps} {pc' : Nat} (h : f_lstore (7, nx, a, b, ts) lv st σ = some (pc', lv', st', σ')) : NxL (7, nx, a, b, ts) lv pc' lv' := by
  unfold f_lstore at h
  repeat' split at h
  all_goals first | (cases h; done) | (cases h; exact ⟨fun _ => rfl, fun e => absurd e (show ¬ false = true by decide), fun e => absurd e (show ¬ true = false by decide), fun _ => ⟨_, Or.inr ⟨rfl, rfl⟩⟩⟩)
theorem nx_f_astore {nx : Nat} {a b : Int} {ts : List Nat} {lv lv' : LV} {st st' : List Value} {σ σ' : ps} {pc' : Nat} (h : f_astore (8, nx, a, b, ts) lv st σ = some (pc', lv', st', σ')) : NxL (8, nx, a, b, ts) lv pc' lv' := by
  unfold f_astore at h
  repeat' split at h
  all_goals first | (cases h; done) | (cases h; exact ⟨fun _ => rfl, fun e => absurd e (show ¬ false = true by decide), fun e => absurd e (show ¬ true = false by decide), fun _ => ⟨_, Or.inl rfl⟩⟩)
theorem nx_f_iinc {nx : Nat} {a b : Int} {ts : List Nat} {lv lv' : LV} {st st' : List Value} {σ σ' : ps} {pc' : Nat} (h : f_iinc (9, nx, a, b, ts) lv st σ = some (pc', lv', st', σ')) : NxL (9, nx, a, b, ts) lv pc' lv' := by
  unfold f_iinc at h
  repeat' split at h
  all_goals first | (cases h; done) | (cases h; exact ⟨fun _ => rfl, fun e => absurd e (show ¬ false = true by decide), fun e => absurd e (show ¬ true = false by decide), fun _ => ⟨_, Or.inl rfl⟩⟩)
theorem nx_f_iop {nx : Nat} {a b : Int} {ts : List Nat} {lv lv' : LV} {st st' : List Value} {σ σ' : ps} {pc' : Nat} (h : f_iop (10, nx, a, b, ts) lv st σ = some (pc', lv', st', σ')) : NxL (10, nx, a, b, ts) lv pc' lv' := by
  unfold f_iop at h
  repeat' split at h
  all_goals first | (cases h; done) | (cases h; exact ⟨fun _ => rfl, fun e => absurd e (show ¬ false = true by decide), fun _ => rfl, fun e => absurd e (show ¬ false = true by decide)⟩)
theorem nx_f_lop {nx : Nat} {a b : Int} {ts : List Nat} {lv lv' : LV} {st st' : List Value} {σ σ' : ps} {pc' : Nat} (h : f_lop (11, nx, a, b, ts) lv st σ = some (pc', lv', st', σ')) : NxL (11, nx, a, b, ts) lv pc' lv' := by
  unfold f_lop at h
  repeat' split at h
  all_goals first | (cases h; done) | (cases h; exact ⟨fun _ => rfl, fun e => absurd e (show ¬ false = true by decide), fun _ => rfl, fun e => absurd e (show ¬ false = true by decide)⟩)
theorem nx_f_lcmp {nx : Nat} {a b : Int} {ts : List Nat} {lv lv' : LV} {st st' : List Value} {σ σ' : ps} {pc' : Nat} (h : f_lcmp (12, nx, a, b, ts) lv st σ = some (pc', lv', st', σ')) : NxL (12, nx, a, b, ts) lv pc' lv' := by
  unfold f_lcmp at h
  repeat' split at h
  all_goals first | (cases h; done) | (cases h; exact ⟨fun _ => rfl, fun e => absurd e (show ¬ false = true by decide), fun _ => rfl, fun e => absurd e (show ¬ false = true by decide)⟩)
theorem nx_f_i2l {nx : Nat} {a b : Int} {ts : List Nat} {lv lv' : LV} {st st' : List Value} {σ σ' : ps} {pc' : Nat} (h : f_i2l (13, nx, a, b, ts) lv st σ = some (pc', lv', st', σ')) : NxL (13, nx, a, b, ts) lv pc' lv' := by
  unfold f_i2l at h
  repeat' split at h
  all_goals first | (cases h; done) | (cases h; exact ⟨fun _ => rfl, fun e => absurd e (show ¬ false = true by decide), fun _ => rfl, fun e => absurd e (show ¬ false = true by decide)⟩)
theorem nx_f_l2i {nx : Nat} {a b : Int} {ts : List Nat} {lv lv' : LV} {st st' : List Value} {σ σ' : ps} {pc' : Nat} (h : f_l2i (14, nx, a, b, ts) lv st σ = some (pc', lv', st', σ')) : NxL (14, nx, a, b, ts) lv pc' lv' := by
  unfold f_l2i at h
  repeat' split at h
  all_goals first | (cases h; done) | (cases h; exact ⟨fun _ => rfl, fun e => absurd e (show ¬ false = true by decide), fun _ => rfl, fun e => absurd e (show ¬ false = true by decide)⟩)
theorem nx_f_i2b {nx : Nat} {a b : Int} {ts : List Nat} {lv lv' : LV} {st st' : List Value} {σ σ' : ps} {pc' : Nat} (h : f_i2b (15, nx, a, b, ts) lv st σ = some (pc', lv', st', σ')) : NxL (15, nx, a, b, ts) lv pc' lv' := by
  unfold f_i2b at h
  repeat' split at h
  all_goals first | (cases h; done) | (cases h; exact ⟨fun _ => rfl, fun e => absurd e (show ¬ false = true by decide), fun _ => rfl, fun e => absurd e (show ¬ false = true by decide)⟩)
theorem nx_f_if {nx : Nat} {a b : Int} {ts : List Nat} {lv lv' : LV} {st st' : List Value} {σ σ' : ps} {pc' : Nat} (h : f_if (16, nx, a, b, ts) lv st σ = some (pc', lv', st', σ')) : NxL (16, nx, a, b, ts) lv pc' lv' := by
  unfold f_if at h
  repeat' split at h
  all_goals first | (cases h; done) | (cases h; refine ⟨fun e => absurd e (show ¬ true = false by decide), fun _ => Or.inr ?_, fun _ => rfl, fun e => absurd e (show ¬ false = true by decide)⟩; first | (exact Or.inr rfl) | (exact Or.inl rfl))
theorem nx_f_icmp {nx : Nat} {a b : Int} {ts : List Nat} {lv lv' : LV} {st st' : List Value} {σ σ' : ps} {pc' : Nat} (h : f_icmp (17, nx, a, b, ts) lv st σ = some (pc', lv', st', σ')) : NxL (17, nx, a, b, ts) lv pc' lv' := by
  unfold f_icmp at h
  repeat' split at h
  all_goals first | (cases h; done) | (cases h; refine ⟨fun e => absurd e (show ¬ true = false by decide), fun _ => Or.inr ?_, fun _ => rfl, fun e => absurd e (show ¬ false = true by decide)⟩; first | (exact Or.inr rfl) | (exact Or.inl rfl))
theorem nx_f_ifnull {nx : Nat} {a b : Int} {ts : List Nat} {lv lv' : LV} {st st' : List Value} {σ σ' : ps} {pc' : Nat} (h : f_ifnull (18, nx, a, b, ts) lv st σ = some (pc', lv', st', σ')) : NxL (18, nx, a, b, ts) lv pc' lv' := by
  unfold f_ifnull at h
  repeat' split at h
  all_goals first | (cases h; done) | (cases h; exact ⟨fun e => absurd e (show ¬ true = false by decide), fun _ => Or.inr (Or.inl rfl), fun _ => rfl, fun e => absurd e (show ¬ false = true by decide)⟩) | (cases h; exact ⟨fun e => absurd e (show ¬ true = false by decide), fun _ => Or.inr (Or.inr rfl), fun _ => rfl, fun e => absurd e (show ¬ false = true by decide)⟩)
theorem nx_f_ifnonnull {nx : Nat} {a b : Int} {ts : List Nat} {lv lv' : LV} {st st' : List Value} {σ σ' : ps} {pc' : Nat} (h : f_ifnonnull (19, nx, a, b, ts) lv st σ = some (pc', lv', st', σ')) : NxL (19, nx, a, b, ts) lv pc' lv' := by
  unfold f_ifnonnull at h
  repeat' split at h
  all_goals first | (cases h; done) | (cases h; exact ⟨fun e => absurd e (show ¬ true = false by decide), fun _ => Or.inr (Or.inl rfl), fun _ => rfl, fun e => absurd e (show ¬ false = true by decide)⟩) | (cases h; exact ⟨fun e => absurd e (show ¬ true = false by decide), fun _ => Or.inr (Or.inr rfl), fun _ => rfl, fun e => absurd e (show ¬ false = true by decide)⟩)
theorem nx_f_switch {nx : Nat} {a b : Int} {ts : List Nat} {lv lv' : LV} {st st' : List Value} {σ σ' : ps} {pc' : Nat} (h : f_switch (21, nx, a, b, ts) lv st σ = some (pc', lv', st', σ')) : NxL (21, nx, a, b, ts) lv pc' lv' := by
  unfold f_switch at h
  repeat' split at h
  all_goals first | (cases h; done) | (cases h; exact ⟨fun e => absurd e (show ¬ true = false by decide), fun _ => Or.inl rfl, fun _ => rfl, fun e => absurd e (show ¬ false = true by decide)⟩)
theorem nx_f_get {nx : Nat} {a b : Int} {ts : List Nat} {lv lv' : LV} {st st' : List Value} {σ σ' : ps} {pc' : Nat} (h : f_get (22, nx, a, b, ts) lv st σ = some (pc', lv', st', σ')) : NxL (22, nx, a, b, ts) lv pc' lv' := by
  unfold f_get at h
  repeat' split at h
  all_goals first | (cases h; done) | (cases h; exact ⟨fun _ => rfl, fun e => absurd e (show ¬ false = true by decide), fun _ => rfl, fun e => absurd e (show ¬ false = true by decide)⟩)
theorem nx_f_iald {nx : Nat} {a b : Int} {ts : List Nat} {lv lv' : LV} {st st' : List Value} {σ σ' : ps} {pc' : Nat} (h : f_iald (24, nx, a, b, ts) lv st σ = some (pc', lv', st', σ')) : NxL (24, nx, a, b, ts) lv pc' lv' := by
  unfold f_iald at h
  repeat' split at h
  all_goals first | (cases h; done) | (cases h; exact ⟨fun _ => rfl, fun e => absurd e (show ¬ false = true by decide), fun _ => rfl, fun e => absurd e (show ¬ false = true by decide)⟩)
theorem nx_f_bald {nx : Nat} {a b : Int} {ts : List Nat} {lv lv' : LV} {st st' : List Value} {σ σ' : ps} {pc' : Nat} (h : f_bald (25, nx, a, b, ts) lv st σ = some (pc', lv', st', σ')) : NxL (25, nx, a, b, ts) lv pc' lv' := by
  unfold f_bald at h
  repeat' split at h
  all_goals first | (cases h; done) | (cases h; exact ⟨fun _ => rfl, fun e => absurd e (show ¬ false = true by decide), fun _ => rfl, fun e => absurd e (show ¬ false = true by decide)⟩)
theorem nx_f_lald {nx : Nat} {a b : Int} {ts : List Nat} {lv lv' : LV} {st st' : List Value} {σ σ' : ps} {pc' : Nat} (h : f_lald (26, nx, a, b, ts) lv st σ = some (pc', lv', st', σ')) : NxL (26, nx, a, b, ts) lv pc' lv' := by
  unfold f_lald at h
  repeat' split at h
  all_goals first | (cases h; done) | (cases h; exact ⟨fun _ => rfl, fun e => absurd e (show ¬ false = true by decide), fun _ => rfl, fun e => absurd e (show ¬ false = true by decide)⟩)
theorem nx_f_aald {nx : Nat} {a b : Int} {ts : List Nat} {lv lv' : LV} {st st' : List Value} {σ σ' : ps} {pc' : Nat} (h : f_aald (27, nx, a, b, ts) lv st σ = some (pc', lv', st', σ')) : NxL (27, nx, a, b, ts) lv pc' lv' := by
  unfold f_aald at h
  repeat' split at h
  all_goals first | (cases h; done) | (cases h; exact ⟨fun _ => rfl, fun e => absurd e (show ¬ false = true by decide), fun _ => rfl, fun e => absurd e (show ¬ false = true by decide)⟩)
theorem nx_f_pop {nx : Nat} {a b : Int} {ts : List Nat} {lv lv' : LV} {st st' : List Value} {σ σ' : ps} {pc' : Nat} (h : f_pop (33, nx, a, b, ts) lv st σ = some (pc', lv', st', σ')) : NxL (33, nx, a, b, ts) lv pc' lv' := by
  unfold f_pop at h
  repeat' split at h
  all_goals first | (cases h; done) | (cases h; exact ⟨fun _ => rfl, fun e => absurd e (show ¬ false = true by decide), fun _ => rfl, fun e => absurd e (show ¬ false = true by decide)⟩)
theorem nx_f_dup {nx : Nat} {a b : Int} {ts : List Nat} {lv lv' : LV} {st st' : List Value} {σ σ' : ps} {pc' : Nat} (h : f_dup (34, nx, a, b, ts) lv st σ = some (pc', lv', st', σ')) : NxL (34, nx, a, b, ts) lv pc' lv' := by
  unfold f_dup at h
  repeat' split at h
  all_goals first | (cases h; done) | (cases h; exact ⟨fun _ => rfl, fun e => absurd e (show ¬ false = true by decide), fun _ => rfl, fun e => absurd e (show ¬ false = true by decide)⟩)
theorem nx_f_dup2 {nx : Nat} {a b : Int} {ts : List Nat} {lv lv' : LV} {st st' : List Value} {σ σ' : ps} {pc' : Nat} (h : f_dup2 (35, nx, a, b, ts) lv st σ = some (pc', lv', st', σ')) : NxL (35, nx, a, b, ts) lv pc' lv' := by
  unfold f_dup2 at h
  repeat' split at h
  all_goals first | (cases h; done) | (cases h; exact ⟨fun _ => rfl, fun e => absurd e (show ¬ false = true by decide), fun _ => rfl, fun e => absurd e (show ¬ false = true by decide)⟩)
theorem nx_f_imin {nx : Nat} {a b : Int} {ts : List Nat} {lv lv' : LV} {st st' : List Value} {σ σ' : ps} {pc' : Nat} (h : f_imin (43, nx, a, b, ts) lv st σ = some (pc', lv', st', σ')) : NxL (43, nx, a, b, ts) lv pc' lv' := by
  unfold f_imin at h
  repeat' split at h
  all_goals first | (cases h; done) | (cases h; exact ⟨fun _ => rfl, fun e => absurd e (show ¬ false = true by decide), fun _ => rfl, fun e => absurd e (show ¬ false = true by decide)⟩)
theorem nx_f_lmin {nx : Nat} {a b : Int} {ts : List Nat} {lv lv' : LV} {st st' : List Value} {σ σ' : ps} {pc' : Nat} (h : f_lmin (44, nx, a, b, ts) lv st σ = some (pc', lv', st', σ')) : NxL (44, nx, a, b, ts) lv pc' lv' := by
  unfold f_lmin at h
  repeat' split at h
  all_goals first | (cases h; done) | (cases h; exact ⟨fun _ => rfl, fun e => absurd e (show ¬ false = true by decide), fun _ => rfl, fun e => absurd e (show ¬ false = true by decide)⟩)
theorem nx_f_oinit {nx : Nat} {a b : Int} {ts : List Nat} {lv lv' : LV} {st st' : List Value} {σ σ' : ps} {pc' : Nat} (h : f_oinit (45, nx, a, b, ts) lv st σ = some (pc', lv', st', σ')) : NxL (45, nx, a, b, ts) lv pc' lv' := by
  unfold f_oinit at h
  repeat' split at h
  all_goals first | (cases h; done) | (cases h; exact ⟨fun _ => rfl, fun e => absurd e (show ¬ false = true by decide), fun _ => rfl, fun e => absurd e (show ¬ false = true by decide)⟩)
theorem nx_f_put {nx : Nat} {a b : Int} {ts : List Nat} {lv lv' : LV} {st st' : List Value} {σ σ' : ps} {pc' : Nat} (h : f_put (23, nx, a, b, ts) lv st σ = some (pc', lv', st', σ')) : NxL (23, nx, a, b, ts) lv pc' lv' := by
  unfold f_put at h
  repeat' split at h
  all_goals first | (cases h; done) | (cases h; exact ⟨fun _ => rfl, fun e => absurd e (show ¬ false = true by decide), fun _ => rfl, fun e => absurd e (show ¬ false = true by decide)⟩)
theorem nx_f_iast {nx : Nat} {a b : Int} {ts : List Nat} {lv lv' : LV} {st st' : List Value} {σ σ' : ps} {pc' : Nat} (h : f_iast (28, nx, a, b, ts) lv st σ = some (pc', lv', st', σ')) : NxL (28, nx, a, b, ts) lv pc' lv' := by
  unfold f_iast at h
  repeat' split at h
  all_goals first | (cases h; done) | (cases h; exact ⟨fun _ => rfl, fun e => absurd e (show ¬ false = true by decide), fun _ => rfl, fun e => absurd e (show ¬ false = true by decide)⟩)
theorem nx_f_bast {nx : Nat} {a b : Int} {ts : List Nat} {lv lv' : LV} {st st' : List Value} {σ σ' : ps} {pc' : Nat} (h : f_bast (29, nx, a, b, ts) lv st σ = some (pc', lv', st', σ')) : NxL (29, nx, a, b, ts) lv pc' lv' := by
  unfold f_bast at h
  repeat' split at h
  all_goals first | (cases h; done) | (cases h; exact ⟨fun _ => rfl, fun e => absurd e (show ¬ false = true by decide), fun _ => rfl, fun e => absurd e (show ¬ false = true by decide)⟩)
theorem nx_f_last {nx : Nat} {a b : Int} {ts : List Nat} {lv lv' : LV} {st st' : List Value} {σ σ' : ps} {pc' : Nat} (h : f_last (30, nx, a, b, ts) lv st σ = some (pc', lv', st', σ')) : NxL (30, nx, a, b, ts) lv pc' lv' := by
  unfold f_last at h
  repeat' split at h
  all_goals first | (cases h; done) | (cases h; exact ⟨fun _ => rfl, fun e => absurd e (show ¬ false = true by decide), fun _ => rfl, fun e => absurd e (show ¬ false = true by decide)⟩)
theorem nx_f_aast {nx : Nat} {a b : Int} {ts : List Nat} {lv lv' : LV} {st st' : List Value} {σ σ' : ps} {pc' : Nat} (h : f_aast (31, nx, a, b, ts) lv st σ = some (pc', lv', st', σ')) : NxL (31, nx, a, b, ts) lv pc' lv' := by
  unfold f_aast at h
  repeat' split at h
  all_goals first | (cases h; done) | (cases h; exact ⟨fun _ => rfl, fun e => absurd e (show ¬ false = true by decide), fun _ => rfl, fun e => absurd e (show ¬ false = true by decide)⟩)
theorem nx_f_new {nx : Nat} {a b : Int} {ts : List Nat} {lv lv' : LV} {st st' : List Value} {σ σ' : ps} {pc' : Nat} (h : f_new (41, nx, a, b, ts) lv st σ = some (pc', lv', st', σ')) : NxL (41, nx, a, b, ts) lv pc' lv' := by
  unfold f_new at h
  repeat' split at h
  all_goals first | (cases h; done) | (cases h; exact ⟨fun _ => rfl, fun e => absurd e (show ¬ false = true by decide), fun _ => rfl, fun e => absurd e (show ¬ false = true by decide)⟩)
theorem nx_f_newa {nx : Nat} {a b : Int} {ts : List Nat} {lv lv' : LV} {st st' : List Value} {σ σ' : ps} {pc' : Nat} (h : f_newa (42, nx, a, b, ts) lv st σ = some (pc', lv', st', σ')) : NxL (42, nx, a, b, ts) lv pc' lv' := by
  unfold f_newa at h
  repeat' split at h
  all_goals first | (cases h; done) | (cases h; exact ⟨fun _ => rfl, fun e => absurd e (show ¬ false = true by decide), fun _ => rfl, fun e => absurd e (show ¬ false = true by decide)⟩)
theorem pst_nx {q : PI} {lv lv' : LV} {st st' : List Value} {σ σ' : ps} {pc' : Nat} (h : pst q lv st σ = some (pc', lv', st', σ')) : NxL q lv pc' lv' := by
  obtain ⟨op, nx, a, b, ts⟩ := q
  have ho : op = 0 ∨ op = 1 ∨ op = 2 ∨ op = 3 ∨ op = 4 ∨ op = 5 ∨ op = 6 ∨ op = 7 ∨ op = 8 ∨ op = 9 ∨ op = 10 ∨ op = 11 ∨ op = 12 ∨ op = 13 ∨ op = 14 ∨ op = 15 ∨ op = 16 ∨ op = 17 ∨ op = 18 ∨ op = 19 ∨ op = 20 ∨ op = 21 ∨ op = 22 ∨ op = 23 ∨ op = 24 ∨ op = 25 ∨ op = 26 ∨ op = 27 ∨ op = 28 ∨ op = 29 ∨ op = 30 ∨ op = 31 ∨ op = 33 ∨ op = 34 ∨ op = 35 ∨ op = 41 ∨ op = 42 ∨ op = 43 ∨ op = 44 ∨ op = 45 := by
    unfold pst at h
    split at h
    all_goals first | (cases h; done) | (rename_i e; simp only at e; subst e; simp)
  rcases ho with e | e | e | e | e | e | e | e | e | e | e | e | e | e | e | e | e | e | e | e | e | e | e | e | e | e | e | e | e | e | e | e | e | e | e | e | e | e | e | e
  · subst e; cases h; exact ⟨fun _ => rfl, fun e => absurd e (show ¬ false = true by decide), fun _ => rfl, fun e => absurd e (show ¬ false = true by decide)⟩
  · subst e; cases h; exact ⟨fun _ => rfl, fun e => absurd e (show ¬ false = true by decide), fun _ => rfl, fun e => absurd e (show ¬ false = true by decide)⟩
  · subst e; cases h; exact ⟨fun _ => rfl, fun e => absurd e (show ¬ false = true by decide), fun _ => rfl, fun e => absurd e (show ¬ false = true by decide)⟩
  · subst e; exact nx_f_iload (show f_iload (3, nx, a, b, ts) lv st σ = _ from h)
  · subst e; exact nx_f_lload (show f_lload (4, nx, a, b, ts) lv st σ = _ from h)
  · subst e; exact nx_f_aload (show f_aload (5, nx, a, b, ts) lv st σ = _ from h)
  · subst e; exact nx_f_istore (show f_istore (6, nx, a, b, ts) lv st σ = _ from h)
  · subst e; exact nx_f_lstore (show f_lstore (7, nx, a, b, ts) lv st σ = _ from h)
  · subst e; exact nx_f_astore (show f_astore (8, nx, a, b, ts) lv st σ = _ from h)
  · subst e; exact nx_f_iinc (show f_iinc (9, nx, a, b, ts) lv st σ = _ from h)
  · subst e; exact nx_f_iop (show f_iop (10, nx, a, b, ts) lv st σ = _ from h)
  · subst e; exact nx_f_lop (show f_lop (11, nx, a, b, ts) lv st σ = _ from h)
  · subst e; exact nx_f_lcmp (show f_lcmp (12, nx, a, b, ts) lv st σ = _ from h)
  · subst e; exact nx_f_i2l (show f_i2l (13, nx, a, b, ts) lv st σ = _ from h)
  · subst e; exact nx_f_l2i (show f_l2i (14, nx, a, b, ts) lv st σ = _ from h)
  · subst e; exact nx_f_i2b (show f_i2b (15, nx, a, b, ts) lv st σ = _ from h)
  · subst e; exact nx_f_if (show f_if (16, nx, a, b, ts) lv st σ = _ from h)
  · subst e; exact nx_f_icmp (show f_icmp (17, nx, a, b, ts) lv st σ = _ from h)
  · subst e; exact nx_f_ifnull (show f_ifnull (18, nx, a, b, ts) lv st σ = _ from h)
  · subst e; exact nx_f_ifnonnull (show f_ifnonnull (19, nx, a, b, ts) lv st σ = _ from h)
  · subst e; cases h; exact ⟨fun e => absurd e (show ¬ true = false by decide), fun _ => Or.inr (Or.inr rfl), fun _ => rfl, fun e => absurd e (show ¬ false = true by decide)⟩
  · subst e; exact nx_f_switch (show f_switch (21, nx, a, b, ts) lv st σ = _ from h)
  · subst e; exact nx_f_get (show f_get (22, nx, a, b, ts) lv st σ = _ from h)
  · subst e; exact nx_f_put (show f_put (23, nx, a, b, ts) lv st σ = _ from h)
  · subst e; exact nx_f_iald (show f_iald (24, nx, a, b, ts) lv st σ = _ from h)
  · subst e; exact nx_f_bald (show f_bald (25, nx, a, b, ts) lv st σ = _ from h)
  · subst e; exact nx_f_lald (show f_lald (26, nx, a, b, ts) lv st σ = _ from h)
  · subst e; exact nx_f_aald (show f_aald (27, nx, a, b, ts) lv st σ = _ from h)
  · subst e; exact nx_f_iast (show f_iast (28, nx, a, b, ts) lv st σ = _ from h)
  · subst e; exact nx_f_bast (show f_bast (29, nx, a, b, ts) lv st σ = _ from h)
  · subst e; exact nx_f_last (show f_last (30, nx, a, b, ts) lv st σ = _ from h)
  · subst e; exact nx_f_aast (show f_aast (31, nx, a, b, ts) lv st σ = _ from h)
  · subst e; exact nx_f_pop (show f_pop (33, nx, a, b, ts) lv st σ = _ from h)
  · subst e; exact nx_f_dup (show f_dup (34, nx, a, b, ts) lv st σ = _ from h)
  · subst e; exact nx_f_dup2 (show f_dup2 (35, nx, a, b, ts) lv st σ = _ from h)
  · subst e; exact nx_f_new (show f_new (41, nx, a, b, ts) lv st σ = _ from h)
  · subst e; exact nx_f_newa (show f_newa (42, nx, a, b, ts) lv st σ = _ from h)
  · subst e; exact nx_f_imin (show f_imin (43, nx, a, b, ts) lv st σ = _ from h)
  · subst e; exact nx_f_lmin (show f_lmin (44, nx, a, b, ts) lv st σ = _ from h)
  · subst e; exact nx_f_oinit (show f_oinit (45, nx, a, b, ts) lv st σ = _ from h)
theorem plk_flt {f : Nat × Value → Bool} {i : Nat} : ∀ (lv : LV), (∀ v, f (i, v) = true) → plk (lv.filter f) i = plk lv i := by
  intro lv
  induction lv with
  | nil => intro _; rfl
  | cons e r ih =>
    intro h
    obtain ⟨j, v⟩ := e
    by_cases ej : j = i
    · subst ej
      rw [List.filter_cons_of_pos (h v)]
      unfold plk
      rw [if_pos rfl, if_pos rfl]
    · by_cases hf : f (j, v) = true
      · rw [List.filter_cons_of_pos hf]
        unfold plk
        rw [if_neg ej, if_neg ej]
        exact ih h
      · rw [List.filter_cons_of_neg hf, ih h]
        conv => rhs; unfold plk
        rw [if_neg ej]
theorem plk_pst1 {lv : LV} {i j : Nat} {v : Value} (h1 : ¬ i = j) (h2 : ¬ i + 1 = j) : plk (pst1 lv j v) i = plk lv i := by
  unfold pst1
  conv => lhs; unfold plk
  rw [if_neg (fun e => h1 e.symm)]
  refine plk_flt lv (fun w => ?_)
  simp [h1, h2]
theorem plk_pst2 {lv : LV} {i j : Nat} {v : Value} (h1 : ¬ i = j) (h2 : ¬ i + 1 = j) (h3 : ¬ i = j + 1) : plk (pst2 lv j v) i = plk lv i := by
  unfold pst2
  conv => lhs; unfold plk
  rw [if_neg (fun e => h1 e.symm)]
  refine plk_flt lv (fun w => ?_)
  simp [h1, h2, h3]
/-- cells and their kinds stay -/
def Sl (σ σ' : ps) : Prop := (∀ a ∈ sL σ, a ∈ sL σ' ∧ sK σ' a = sK σ a) ∧ ∀ a ∈ sL σ', a < σ'.1
theorem stp.sl {σ σ' : ps} (h : stp σ σ') (hL : ∀ a ∈ sL σ, a < σ.1) : Sl σ σ' := by
  rcases h with e | ⟨a, j, v, e⟩ | ⟨k, n, f, e⟩
  · subst e; exact ⟨fun a ha => ⟨ha, rfl⟩, hL⟩
  · subst e; exact ⟨fun a ha => ⟨ha, rfl⟩, hL⟩
  · subst e
    refine ⟨fun a ha => ⟨List.mem_append_left _ ha, ?_⟩, fun a ha => ?_⟩
    · exact sNew_neK _ _ _ (by have := hL a ha; omega)
    · show a < σ.1 + 1
      rcases List.mem_append.mp ha with h | h
      · have := hL a h; omega
      · rw [List.mem_singleton] at h; omega
theorem Sl.tr {σ σ1 σ2 : ps} (h1 : Sl σ σ1) (h2 : Sl σ1 σ2) : Sl σ σ2 := ⟨fun a ha => ⟨(h2.1 a (h1.1 a ha).1).1, ((h2.1 a (h1.1 a ha).1).2).trans (h1.1 a ha).2⟩, h2.2⟩
theorem Sl.rf {σ : ps} (hL : ∀ a ∈ sL σ, a < σ.1) : Sl σ σ := ⟨fun a ha => ⟨ha, rfl⟩, hL⟩
theorem prun_sl : ∀ (n mi pc : Nat) (lv : LV) (st : List Value) (σ : ps) (x : Option Value × ps), prun n mi pc lv st σ = some x → (∀ a ∈ sL σ, a < σ.1) → Sl σ x.2 := by
  intro n
  induction n with
  | zero => intro mi pc lv st σ x h; cases h
  | succ n ih =>
    intro mi pc lv st σ x h hL
    unfold prun at h
    split at h
    · cases h
    · split at h
      · split at h
        · split at h
          · cases h
          · rename_i r σ1 hr
            have s1 := ih _ _ _ _ _ _ hr hL
            exact s1.tr (ih _ _ _ _ _ _ h s1.2)
        · cases h
      · split at h
        · cases h; exact Sl.rf hL
        · split at h
          · cases h
          · rename_i hs
            have s1 := (m_pst hs).sl hL
            exact s1.tr (ih _ _ _ _ _ _ h s1.2)
/-- a region of a method: it is left at out alone; some locals stay -/
def regQ (R : List Nat) (out : Nat) (kl : List Nat) (q : PI) : Bool :=
  ((R.contains q.2.1 || q.2.1 == out) || q.1 == 20) && ((!(brL q) || ((R.contains q.2.2.2.1.toNat || q.2.2.2.1.toNat == out) && !(q.1 == 21))) && (!(decide (37 ≤ q.1 ∧ q.1 ≤ 40)) && (!(stL q) || kl.all (fun i => !(i == q.2.2.1.toNat) && (!(i + 1 == q.2.2.1.toNat) && !(i == q.2.2.1.toNat + 1))))))
theorem plkI_allR {R : List Nat} {f : PI → Bool} : ∀ (l : List (Nat × PI)), l.all (fun e => !(R.contains e.1) || f e.2) = true → ∀ (pc : Nat) (q : PI), R.contains pc = true → plkI l pc = some q → f q = true := by
  intro l
  induction l with
  | nil => intro _ pc q _ h; cases h
  | cons e r ih =>
    intro h pc q hR hq
    rw [List.all_cons, Bool.and_eq_true] at h
    obtain ⟨j, w⟩ := e
    unfold plkI at hq
    split at hq
    · rename_i e
      cases hq
      have h1 := h.1
      have e : j = pc := e
      subst e
      simp only [hR, Bool.not_true, Bool.false_or] at h1
      exact h1
    · exact ih h.2 pc q hR hq
theorem prun_reg {mi out : Nat} {R kl : List Nat} (hm : mi < 203) (hall : (pg mi).all (fun e => !(R.contains e.1) || regQ R out kl e.2) = true) : ∀ (n pc : Nat) (lv : LV) (st : List Value) (σ : ps) (x : Option Value × ps), R.contains pc = true → (∀ a ∈ sL σ, a < σ.1) → prun n mi pc lv st σ = some x → ∃ m lv' st' σ', m ≤ n ∧ (∀ i ∈ kl, plk lv' i = plk lv i) ∧ Sl σ σ' ∧ prun m mi out lv' st' σ' = some x := by
  intro n
  induction n with
  | zero => intro pc lv st σ x _ _ h; cases h
  | succ n ih =>
    intro pc lv st σ x hR hL h
    unfold prun at h
    cases hp : pins mi pc with
    | none => rw [hp] at h; cases h
    | some q =>
      rw [hp] at h
      have hq : regQ R out kl q = true := by
        unfold pins at hp
        rw [if_pos hm] at hp
        exact plkI_allR _ hall pc q hR hp
      unfold regQ at hq
      rw [Bool.and_eq_true, Bool.and_eq_true, Bool.and_eq_true] at hq
      obtain ⟨h1, h2, h3, h4⟩ := hq
      have go : ∀ (pc' : Nat) (lv' : LV) (st' : List Value) (σ' : ps), (R.contains pc' || pc' == out) = true → (∀ i ∈ kl, plk lv' i = plk lv i) → Sl σ σ' → prun n mi pc' lv' st' σ' = some x → ∃ m lv' st' σ', m ≤ n + 1 ∧ (∀ i ∈ kl, plk lv' i = plk lv i) ∧ Sl σ σ' ∧ prun m mi out lv' st' σ' = some x := by
        intro pc' lv' st' σ' hc hlv hS h
        rw [Bool.or_eq_true, beq_iff_eq] at hc
        rcases hc with hc | hc
        · obtain ⟨m, l2, s2, σ2, a1, a2, a3, a4⟩ := ih pc' lv' st' σ' x hc hS.2 h
          exact ⟨m, l2, s2, σ2, by omega, fun i hi => (a2 i hi).trans (hlv i hi), hS.tr a3, a4⟩
        · subst hc; exact ⟨n, lv', st', σ', by omega, hlv, hS, h⟩
      simp only at h
      by_cases e36 : q.1 = 36
      · rw [if_pos e36] at h
        have h1 : (R.contains q.2.1 || q.2.1 == out) = true := by
          rw [Bool.or_eq_true] at h1
          rcases h1 with h1 | h1
          · exact h1
          · rw [e36] at h1; exact absurd h1 (by decide)
        split at h
        · split at h
          · cases h
          · rename_i r σ1 hr
            exact go _ _ _ _ h1 (fun _ _ => rfl) (prun_sl _ _ _ _ _ _ _ hr hL) h
        · cases h
      · rw [if_neg e36] at h
        split at h
        · rename_i r hr
          exfalso
          rw [Bool.not_eq_true', decide_eq_false_iff_not] at h3
          rw [pret_none h3] at hr
          cases hr
        · split at h
          · cases h
          · rename_i pc' lv' st' σ' hs
            obtain ⟨n1, n2, n3, n4⟩ := pst_nx hs
            refine go pc' lv' st' σ' ?_ ?_ ((m_pst hs).sl hL) h
            · cases hb : brL q with
              | false =>
                rw [n1 hb]
                rw [Bool.or_eq_true] at h1
                rcases h1 with h1 | h1
                · exact h1
                · exfalso
                  unfold brL at hb
                  simp only [Bool.or_eq_false_iff] at hb
                  rw [hb.2.2.2.2.1] at h1
                  cases h1
              | true =>
                rw [hb] at h2
                simp only [Bool.not_true, Bool.false_or, Bool.and_eq_true, Bool.not_eq_true', beq_eq_false_iff_ne] at h2
                rcases n2 hb with e | e | e
                · exact absurd e h2.2
                · rw [e]
                  rw [Bool.or_eq_true] at h1
                  rcases h1 with h1 | h1
                  · exact h1
                  · have e20 : q.1 = 20 := by rw [beq_iff_eq] at h1; exact h1
                    obtain ⟨op, nx, a, b, ts⟩ := q
                    have e20 : op = 20 := e20
                    subst e20
                    cases hs
                    have e : b.toNat = nx := e
                    have h2 := h2.1
                    show (R.contains nx || nx == out) = true
                    rw [← e]
                    exact h2
                · rw [e]; exact h2.1
            · intro i hi
              cases hb : stL q with
              | false => rw [n3 hb]
              | true =>
                rw [hb] at h4
                simp only [Bool.not_true, Bool.false_or] at h4
                have := List.all_eq_true.mp h4 i hi
                simp only [Bool.and_eq_true, Bool.not_eq_true', beq_eq_false_iff_ne] at this
                obtain ⟨v, hv | ⟨_, hv⟩⟩ := n4 hb
                · rw [hv]; exact plk_pst1 this.1 this.2.1
                · rw [hv]; exact plk_pst2 this.1 this.2.1 this.2.2
theorem ret38_any {n mi pc nx : Nat} {lv : LV} {r : List Value} {σ : ps} {x : Option Value × ps} {a b : Int} {ts : List Nat} {v : Int32} (h : prun n mi pc lv (.int v :: r) σ = some x) (hq : pins mi pc = some (38, nx, a, b, ts)) : x = (some (.int v), σ) := by
  cases r with
  | nil => exact u_ret38 h hq
  | cons u r =>
    exfalso
    cases n with
    | zero => cases h
    | succ n =>
      unfold prun at h
      rw [hq] at h
      simp only at h
      rw [if_neg (by decide)] at h
      have h : (none : Option (Option Value × ps)) = some x := h
      cases h
theorem ret37_any {n mi pc nx : Nat} {lv : LV} {r : List Value} {σ : ps} {x : Option Value × ps} {a b : Int} {ts : List Nat} (h : prun n mi pc lv r σ = some x) (hq : pins mi pc = some (37, nx, a, b, ts)) : x.2 = σ := by
  cases r with
  | nil => rw [u_ret37 h hq]
  | cons u r =>
    exfalso
    cases n with
    | zero => cases h
    | succ n =>
      unfold prun at h
      rw [hq] at h
      simp only at h
      rw [if_neg (by decide)] at h
      have h : (none : Option (Option Value × ps)) = some x := h
      cases h
/-- the class's go: its answer and its time -/
theorem pc_cgo {n x : Nat} {m : Int32} {T : Int64} {σ : ps} {y : Option Value × ps} (hL : ∀ a ∈ sL σ, a < σ.1) (h : prun n 101 0 (lv_args 0 [.ref x, .int m]) [] σ = some y) (hT : sV σ x 9 = .long T) : ((m.toInt < 0 ∨ 20000 < m.toInt) ∧ y.1 = some (.int (Int32.ofInt (-1))) ∧ y.2 = σ) ∨ ((0 ≤ m.toInt ∧ m.toInt ≤ 20000) ∧ y.1 = some (.int (T + m.toInt64).toInt32) ∧ sV y.2 x 9 = .long (T + m.toInt64)) := by
  have h : prun n 101 0 [(0, .ref x), (1, .int m)] [] σ = some y := h
  have bad : ∀ {k : Nat}, prun k 101 11 [(0, .ref x), (1, .int m)] [] σ = some y → y.1 = some (.int (Int32.ofInt (-1))) ∧ y.2 = σ := by
    intro k h
    obtain ⟨n1, w, l1, ⟨e, _⟩, h⟩ := u_ic h (by decide +kernel : pins 101 11 = some (0, 12, (-1), 0, [])) (by decide)
    have ex := u_ret38 h (by decide +kernel : pins 101 12 = some (38, 13, 0, 0, []))
    rw [ex, e]
    exact ⟨rfl, rfl⟩
  obtain ⟨n1, l1, h⟩ := v_il h (by decide +kernel : pins 101 0 = some (3, 1, 1, 0, [])) (v := m) rfl
  obtain ⟨n2, l2, ⟨c1, h⟩ | ⟨c1, h⟩⟩ := u_if2 h (by decide +kernel : pins 101 1 = some (16, 4, 2, ((11 : Nat) : Int), []))
  · exact Or.inl ⟨Or.inl c1, bad h⟩
  obtain ⟨n3, l3, h⟩ := v_il h (by decide +kernel : pins 101 4 = some (3, 5, 1, 0, [])) (v := m) rfl
  obtain ⟨n4, w5, l4, ⟨e5, i5⟩, h⟩ := u_ic h (by decide +kernel : pins 101 5 = some (0, 8, 20000, 0, [])) (by decide)
  obtain ⟨n5, l5, ⟨c8, h⟩ | ⟨c8, h⟩⟩ := u_ic5 h (by decide +kernel : pins 101 8 = some (17, 11, 5, ((13 : Nat) : Int), []))
  · obtain ⟨n6, l6, h⟩ := v_al h (by decide +kernel : pins 101 13 = some (5, 14, 0, 0, [])) (v := x) rfl
    obtain ⟨n7, l7, _, h⟩ := v_get h (by decide +kernel : pins 101 14 = some (22, 17, 12, 9, []))
    rw [show sV σ x (9 : Int).toNat = .long T from hT] at h
    obtain ⟨n8, l8, h⟩ := v_il h (by decide +kernel : pins 101 17 = some (3, 18, 1, 0, [])) (v := m) rfl
    obtain ⟨n9, w18, l9, e18, h⟩ := u_i2l h (by decide +kernel : pins 101 18 = some (13, 19, 0, 0, []))
    obtain ⟨n10, w19, l10, e19, h⟩ := u_ladd h (by decide +kernel : pins 101 19 = some (11, 20, 0, 0, []))
    obtain ⟨n11, l11, h⟩ := v_ls h (by decide +kernel : pins 101 20 = some (7, 21, 2, 0, []))
    obtain ⟨n12, w21, l12, _, h⟩ := u_ic h (by decide +kernel : pins 101 21 = some (0, 22, 0, 0, [])) (by decide)
    obtain ⟨n13, l13, h⟩ := v_is h (by decide +kernel : pins 101 22 = some (6, 24, 4, 0, []))
    have h : prun n13 101 24 [(4, .int w21), (2, .long w19), (0, .ref x), (1, .int m)] [] σ = some y := h
    obtain ⟨k, lv', st', σ', _, hk, _, h⟩ := prun_reg (mi := 101) (out := 84) (R := [24, 26, 28, 31, 32, 35, 36, 39, 42, 43, 46, 49, 50, 53, 56, 57, 60, 62, 64, 65, 66, 69, 72, 73, 75, 78, 81]) (kl := [0, 2]) (by decide) (by decide +kernel) _ _ _ _ _ _ (by decide) hL h
    have k0 : plk lv' 0 = some (.ref x) := (hk 0 (by decide)).trans rfl
    have k2 : plk lv' 2 = some (.long w19) := (hk 2 (by decide)).trans rfl
    obtain ⟨m1, j1, h⟩ := v_al h (by decide +kernel : pins 101 84 = some (5, 85, 0, 0, [])) (v := x) k0
    obtain ⟨m2, j2, h⟩ := v_ll h (by decide +kernel : pins 101 85 = some (4, 86, 2, 0, [])) (v := w19) k2
    obtain ⟨m3, j3, h⟩ := v_put h (by decide +kernel : pins 101 86 = some (23, 89, 12, 9, []))
    obtain ⟨m4, j4, h⟩ := v_al h (by decide +kernel : pins 101 89 = some (5, 90, 0, 0, [])) (v := x) k0
    obtain ⟨m5, j5, _, h⟩ := v_get h (by decide +kernel : pins 101 90 = some (22, 93, 12, 9, []))
    have e9 : sV (sPut σ' x (9 : Int).toNat (.long w19)) x (9 : Int).toNat = .long w19 := by rw [sPut_self]; exact if_pos rfl
    rw [e9] at h
    obtain ⟨m6, w93, j6, e93, h⟩ := u_l2i h (by decide +kernel : pins 101 93 = some (14, 94, 0, 0, []))
    have ex := ret38_any h (by decide +kernel : pins 101 94 = some (38, 95, 0, 0, []))
    have e19 : w19 = T + m.toInt64 := by rw [e19, e18]
    refine Or.inr ⟨by omega, ?_, ?_⟩
    · rw [ex, e93, e19]
    · rw [ex, ← e19]; exact e9
  · exact Or.inl ⟨Or.inr (by omega), bad h⟩
/-- a field of a class of objects that a run leaves -/
def keepQ (M : List Nat) (K J lo : Nat) (q : PI) : Bool := !(q.1 == 23 && (q.2.2.1.toNat == K && q.2.2.2.1.toNat == J)) && ((!(q.1 == 36) || M.contains q.2.2.1.toNat) && ((decide (37 ≤ q.1 ∧ q.1 ≤ 40) || (q.1 == 20 || decide (lo ≤ q.2.1))) && (!(brL q) || (decide (lo ≤ q.2.2.2.1.toNat) && !(q.1 == 21 && decide (0 < lo))))))
def kchk (M : List Nat) (K J : Nat) (mi lo : Nat) : Bool := (pg mi).all (fun e => decide (e.1 < lo) || keepQ M K J lo e.2)
def Kp (K J : Nat) (σ σ' : ps) : Prop := Sl σ σ' ∧ ∀ a ∈ sL σ, sK σ a = K → sV σ' a J = sV σ a J
theorem Kp.rf {K J : Nat} {σ : ps} (hL : ∀ a ∈ sL σ, a < σ.1) : Kp K J σ σ := ⟨Sl.rf hL, fun _ _ _ => rfl⟩
theorem Kp.tr {K J : Nat} {σ σ1 σ2 : ps} (h1 : Kp K J σ σ1) (h2 : Kp K J σ1 σ2) : Kp K J σ σ2 := ⟨h1.1.tr h2.1, fun a ha hk => (h2.2 a (h1.1.1 a ha).1 ((h1.1.1 a ha).2.trans hk)).trans (h1.2 a ha hk)⟩
theorem sPut_kp {K J : Nat} {σ : ps} {a j : Nat} {v : Value} (hL : ∀ a ∈ sL σ, a < σ.1) (h : sK σ a = K → ¬ j = J) : Kp K J σ (sPut σ a j v) := by
  refine ⟨⟨fun b hb => ⟨hb, rfl⟩, hL⟩, fun b hb hk => ?_⟩
  by_cases e : b = a
  · subst e
    rw [sPut_self]
    simp only
    rw [if_neg (fun q => h hk q.symm)]
  · rw [sPut_ne _ _ e]
theorem sNew_kp {K J : Nat} {σ : ps} {k n : Nat} {f : Nat → Value} (hL : ∀ a ∈ sL σ, a < σ.1) : Kp K J σ (sNew σ k n f) := by
  refine ⟨stp.sl (Or.inr (Or.inr ⟨k, n, f, rfl⟩)) hL, fun b hb _ => ?_⟩
  rw [sNew_neV _ _ _ (by have := hL b hb; omega)]
theorem pst_kp {K J lo : Nat} (hK : K < 14) {M : List Nat} {q : PI} {lv lv' : LV} {st st' : List Value} {σ σ' : ps} {pc' : Nat} (hL : ∀ a ∈ sL σ, a < σ.1) (hq : keepQ M K J lo q = true) (h : pst q lv st σ = some (pc', lv', st', σ')) : Kp K J σ σ' := by
  by_cases hp : q.1 ∈ pureL
  · rw [pst_pure hp h]; exact Kp.rf hL
  obtain ⟨op, nx, a, b, ts⟩ := q
  have ho : op ∈ pureL ∨ op = 23 ∨ op = 28 ∨ op = 29 ∨ op = 30 ∨ op = 31 ∨ op = 41 ∨ op = 42 := by
    unfold pst at h
    split at h
    all_goals first | (cases h; done) | (rename_i e; simp only at e; subst e; simp [pureL])
  rcases ho with e | e | e | e | e | e | e | e
  · exact absurd e hp
  · subst e
    have h : f_put (23, nx, a, b, ts) lv st σ = some (pc', lv', st', σ') := h
    unfold f_put at h
    split at h
    · split at h
      · rename_i hc
        cases h
        refine sPut_kp hL (fun hk e => ?_)
        rw [Bool.and_eq_true] at hc
        have h1 := (pis_ok hc.1).2
        unfold keepQ at hq
        have : (b.toNat == J) = true := by rw [beq_iff_eq]; exact e
        have h2 : (a.toNat == K) = true := by rw [beq_iff_eq]; exact (show _ = a.toNat from h1).symm.trans hk
        simp only [this, h2, beq_self_eq_true, Bool.and_self, Bool.not_true, Bool.false_and] at hq
        cases hq
      · cases h
    · cases h
  · subst e
    have h : f_iast (28, nx, a, b, ts) lv st σ = some (pc', lv', st', σ') := h
    unfold f_iast at h
    split at h
    · split at h
      · rename_i hc
        cases h
        rw [Bool.and_eq_true] at hc
        exact sPut_kp hL (fun hk => by have := (isRow_ok hc.1).2.1; omega)
      · cases h
    · cases h
  · subst e
    have h : f_bast (29, nx, a, b, ts) lv st σ = some (pc', lv', st', σ') := h
    unfold f_bast at h
    split at h
    · split at h
      · rename_i hc
        cases h
        rw [Bool.and_eq_true] at hc
        exact sPut_kp hL (fun hk => by have := (isRow_ok hc.1).2.1; omega)
      · split at h
        · rename_i hc
          cases h
          rw [Bool.and_eq_true] at hc
          exact sPut_kp hL (fun hk => by have := (isRow_ok hc.1).2.1; omega)
        · cases h
    · cases h
  · subst e
    have h : f_last (30, nx, a, b, ts) lv st σ = some (pc', lv', st', σ') := h
    unfold f_last at h
    split at h
    · split at h
      · rename_i hc
        cases h
        rw [Bool.and_eq_true] at hc
        exact sPut_kp hL (fun hk => by have := (isRow_ok hc.1).2.1; omega)
      · cases h
    · cases h
  · subst e
    have h : f_aast (31, nx, a, b, ts) lv st σ = some (pc', lv', st', σ') := h
    unfold f_aast at h
    split at h
    · split at h
      · rename_i hc
        cases h
        rw [Bool.and_eq_true] at hc
        exact sPut_kp hL (fun hk => by have := (isRowQ_ok hc.1).2.1; omega)
      · cases h
    · cases h
  · subst e
    have h : f_new (41, nx, a, b, ts) lv st σ = some (pc', lv', st', σ') := h
    unfold f_new at h
    cases h
    exact sNew_kp hL
  · subst e
    have h : f_newa (42, nx, a, b, ts) lv st σ = some (pc', lv', st', σ') := h
    unfold f_newa at h
    split at h
    · split at h
      · cases h; exact sNew_kp hL
      · cases h
    · cases h
theorem kchk_q {M : List Nat} {K J mi lo pc : Nat} {q : PI} (hm : mi < 203) (h : kchk M K J mi lo = true) (hl : lo ≤ pc) (hq : pins mi pc = some q) : keepQ M K J lo q = true := by
  unfold pins at hq
  rw [if_pos hm] at hq
  unfold kchk at h
  generalize pg mi = l at h hq
  induction l with
  | nil => cases hq
  | cons e r ih =>
    rw [List.all_cons, Bool.and_eq_true] at h
    obtain ⟨j, w⟩ := e
    unfold plkI at hq
    split at hq
    · rename_i e
      cases hq
      have e : j = pc := e
      have h1 := h.1
      simp only [e, decide_eq_false (show ¬ pc < lo by omega), Bool.false_or] at h1
      exact h1
    · exact ih h.2 hq
theorem prun_kp {M : List Nat} {K J : Nat} (hK : K < 14) (hM : ∀ c ∈ M, c < 203 ∧ kchk M K J c 0 = true) : ∀ (n mi lo : Nat), mi < 203 → kchk M K J mi lo = true → ∀ (pc : Nat) (lv : LV) (st : List Value) (σ : ps) (x : Option Value × ps), lo ≤ pc → (∀ a ∈ sL σ, a < σ.1) → prun n mi pc lv st σ = some x → Kp K J σ x.2 := by
  intro n
  induction n with
  | zero => intro mi lo _ _ pc lv st σ x _ _ h; cases h
  | succ n ih =>
    intro mi lo hm hc pc lv st σ x hl hL h
    unfold prun at h
    cases hp : pins mi pc with
    | none => rw [hp] at h; cases h
    | some q =>
      rw [hp] at h
      have hq := kchk_q hm hc hl hp
      have hq0 := hq
      unfold keepQ at hq
      rw [Bool.and_eq_true, Bool.and_eq_true, Bool.and_eq_true] at hq
      obtain ⟨-, h2, h3, h4⟩ := hq
      simp only at h
      by_cases e36 : q.1 = 36
      · rw [if_pos e36] at h
        have h3 : lo ≤ q.2.1 := by
          rw [e36] at h3
          simp only [Bool.or_eq_true, decide_eq_true_eq, beq_iff_eq] at h3
          omega
        have hcm : q.2.2.1.toNat ∈ M := by
          rw [e36] at h2
          simp only [beq_self_eq_true, Bool.not_true, Bool.false_or] at h2
          exact List.contains_iff_mem.mp h2
        split at h
        · split at h
          · cases h
          · rename_i r σ1 hr
            have s1 := ih _ 0 (hM _ hcm).1 (hM _ hcm).2 _ _ _ _ _ (Nat.zero_le _) hL hr
            exact s1.tr (ih _ lo hm hc _ _ _ _ _ h3 s1.1.2 h)
        · cases h
      · rw [if_neg e36] at h
        split at h
        · cases h; exact Kp.rf hL
        · rename_i hr
          split at h
          · cases h
          · rename_i pc' lv' st' σ' hs
            have s1 := pst_kp hK hL hq0 hs
            refine s1.tr (ih _ lo hm hc pc' _ _ _ _ ?_ s1.1.2 h)
            obtain ⟨n1, n2, -, -⟩ := pst_nx hs
            have hnr : ¬ (37 ≤ q.1 ∧ q.1 ≤ 40) := by
              intro e
              obtain ⟨op, nx, a, b, ts⟩ := q
              have e : 37 ≤ op ∧ op ≤ 40 := e
              have : op = 37 ∨ op = 38 ∨ op = 39 ∨ op = 40 := by omega
              rcases this with e | e | e | e <;> subst e <;> cases hs
            simp only [Bool.or_eq_true, decide_eq_true_eq, beq_iff_eq] at h3
            cases hb : brL q with
            | false =>
              rw [n1 hb]
              rcases h3 with h3 | h3 | h3
              · exact absurd h3 hnr
              · exfalso
                unfold brL at hb
                rw [h3] at hb
                simp at hb
              · exact h3
            | true =>
              rw [hb] at h4
              simp only [Bool.not_true, Bool.false_or, Bool.and_eq_true, decide_eq_true_eq] at h4
              rcases n2 hb with e | e | e
              · have h5 := h4.2
                rw [e] at h5
                simp only [beq_self_eq_true, Bool.true_and, Bool.not_eq_true', decide_eq_false_iff_not] at h5
                omega
              · rw [e]
                rcases h3 with h3 | h3 | h3
                · exact absurd h3 hnr
                · obtain ⟨op, nx, a, b, ts⟩ := q
                  have h3 : op = 20 := h3
                  subst h3
                  cases hs
                  have e : b.toNat = nx := e
                  have h4 : lo ≤ b.toNat := h4.1
                  show lo ≤ nx
                  omega
                · exact h3
              · rw [e]; exact h4.1
theorem pc_cinit {n x : Nat} {σ : ps} {y : Option Value × ps} (hL : ∀ a ∈ sL σ, a < σ.1) (hx : x ∈ sL σ) (hk : sK σ x = 12) (h : prun n 86 0 (lv_args 0 [.ref x]) [] σ = some y) : sV y.2 x 9 = .long 0 := by
  have h : prun n 86 0 [(0, .ref x)] [] σ = some y := h
  obtain ⟨k, lv', st', σ', _, hkl, S, h⟩ := prun_reg (mi := 86) (out := 75) (R := [0, 1, 4, 5, 7, 10, 13, 14, 17, 18, 21, 24, 25, 28, 29, 32, 35, 36, 38, 40, 43, 44, 47, 50, 53, 54, 55, 58, 59, 60, 63, 64, 65, 68, 69, 72]) (kl := [0]) (by decide) (by decide +kernel) _ _ _ _ _ _ (by decide) hL h
  have k0 : plk lv' 0 = some (.ref x) := (hkl 0 (by decide)).trans rfl
  obtain ⟨m1, j1, h⟩ := v_al h (by decide +kernel : pins 86 75 = some (5, 76, 0, 0, [])) (v := x) k0
  obtain ⟨m2, w, j2, e, h⟩ := u_lc h (by decide +kernel : pins 86 76 = some (1, 77, 0, 0, []))
  obtain ⟨m3, j3, h⟩ := v_put h (by decide +kernel : pins 86 77 = some (23, 80, 12, 9, []))
  have hM : ∀ c ∈ ([0, 7, 15, 25, 35, 55, 76, 77, 79] : List Nat), c < 203 ∧ kchk [0, 7, 15, 25, 35, 55, 76, 77, 79] 12 9 c 0 = true := by decide +kernel
  have K := prun_kp (K := 12) (J := 9) (by decide) hM m3 86 80 (by decide) (by decide +kernel) 80 _ _ (sPut σ' x (9 : Int).toNat (.long w)) _ (by decide) S.2 h
  have K2 := K.2 x (S.1 x hx).1 ((S.1 x hx).2.trans hk)
  rw [K2, sPut_self, e]
  exact if_pos rfl
def ciK : List Nat := [41, 44, 45, 46, 47, 48, 49, 50, 51, 52, 53, 54, 55, 56, 57, 58, 59, 60, 61, 62, 63, 64, 65, 66, 67, 68, 69, 70, 71, 72, 73, 74, 75, 76, 77, 78, 79, 80, 81, 82, 83, 84, 85, 88, 89, 91, 92, 94, 96, 97, 101, 102, 103, 104, 105, 106, 107]
/-- the reference under construction: m rows stand -/
def CI (σ0 : ps) (t m : Nat) (σ : ps) : Prop := σ.1 = σ0.1 + m ∧ (∀ a ∈ sL σ, a ∈ sL σ0 ∨ (σ0.1 ≤ a ∧ a < σ0.1 + m)) ∧ (∀ i, i < m → sK σ (σ0.1 + i) = ciK.getD i 0 ∧ sV σ (σ0.1 + i) = (fun _ => rowV (rk (ciK.getD i 0)).1) ∧ sV σ t (ciK.getD i 0 - 40) = .ref (σ0.1 + i)) ∧ (∀ j, ¬ j + 40 ∈ ciK → sV σ t j = sV σ0 t j) ∧ t < σ0.1 ∧ ∀ a, a < σ0.1 → sK σ a = sK σ0 a
theorem v_newa {n mi pc nx : Nat} {lv : LV} {r : List Value} {σ : ps} {x : Option Value × ps} {a b : Int} {ts : List Nat} {w : Int32} (h : prun n mi pc lv (.int w :: r) σ = some x) (hq : pins mi pc = some (42, nx, a, b, ts)) : ∃ m, m < n ∧ prun m mi nx lv (.ref σ.1 :: r) (sNew σ a.toNat (rk a.toNat).2 (fun _ => rowV (rk a.toNat).1)) = some x := by
  obtain ⟨m, pc', lv', st', σ', hm, h1, h2⟩ := pinv h hq (fun e => absurd (show (42 : Nat) = 36 from e) (by decide)) (fun e => absurd (show 37 ≤ (42 : Nat) ∧ (42 : Nat) ≤ 40 from e) (by decide))
  have h1 : f_newa (42, nx, a, b, ts) lv (.int w :: r) σ = some (pc', lv', st', σ') := h1
  unfold f_newa at h1
  simp only at h1
  split at h1
  · cases h1
    exact ⟨m, hm, h2⟩
  · cases h1
theorem v_oinit {n mi pc nx : Nat} {lv : LV} {r : List Value} {σ : ps} {x : Option Value × ps} {a b : Int} {ts : List Nat} {u : Nat} (h : prun n mi pc lv (.ref u :: r) σ = some x) (hq : pins mi pc = some (45, nx, a, b, ts)) : ∃ m, m < n ∧ prun m mi nx lv r σ = some x := by
  obtain ⟨m, pc', lv', st', σ', hm, h1, h2⟩ := pinv h hq (fun e => absurd (show (45 : Nat) = 36 from e) (by decide)) (fun e => absurd (show 37 ≤ (45 : Nat) ∧ (45 : Nat) ≤ 40 from e) (by decide))
  have h1 : f_oinit (45, nx, a, b, ts) lv (.ref u :: r) σ = some (pc', lv', st', σ') := h1
  unfold f_oinit at h1
  simp only at h1
  split at h1
  · cases h1
    exact ⟨m, hm, h2⟩
  · cases h1
theorem ciK_nd : ∀ i, i < ciK.length → ∀ j, j < ciK.length → ciK.getD i 0 = ciK.getD j 0 → i = j := by decide +kernel
theorem ciK_40 : ∀ i, i < ciK.length → 40 ≤ ciK.getD i 0 ∧ ciK.getD i 0 - 40 + 40 ∈ ciK := by decide +kernel
theorem ci_step {t m n pc p1 p2 p3 nx : Nat} {k : Nat} {l j : Int} {σ0 σ : ps} {x : Option Value × ps} (C : CI σ0 t m σ) (hm : m < ciK.length) (hk : ciK.getD m 0 = k) (h : prun n 135 pc [(0, .ref t)] [] σ = some x) (q0 : pins 135 pc = some (5, p1, 0, 0, [])) (q1 : pins 135 p1 = some (0, p2, l, 0, [])) (q2 : pins 135 p2 = some (42, p3, ((k : Nat) : Int), 0, [])) (q3 : pins 135 p3 = some (23, nx, 13, j, [])) (hj : j.toNat = k - 40) (hl : inR l = true) : ∃ n' σ', prun n' 135 nx [(0, .ref t)] [] σ' = some x ∧ CI σ0 t (m + 1) σ' := by
  obtain ⟨n1, l1, h⟩ := v_al h q0 (v := t) rfl
  obtain ⟨n2, w, l2, _, h⟩ := u_ic h q1 hl
  obtain ⟨n3, l3, h⟩ := v_newa h q2
  obtain ⟨n4, l4, h⟩ := v_put h q3
  obtain ⟨c1, c2, c3, c4, c5, c6⟩ := C
  refine ⟨n4, _, h, ?_⟩
  have kk : ((k : Nat) : Int).toNat = k := by omega
  rw [kk, hj]
  have tn : ¬ t = σ.1 := by omega
  have b40 := (ciK_40 m hm).1
  refine ⟨?_, ?_, ?_, ?_, c5, ?_⟩
  · show σ.1 + 1 = _; omega
  · intro a ha
    have ha : a ∈ sL σ ++ [σ.1] := ha
    rcases List.mem_append.mp ha with h | h
    · rcases c2 a h with h | h
      · exact Or.inl h
      · exact Or.inr (by omega)
    · rw [List.mem_singleton] at h
      exact Or.inr (by omega)
  · intro i hi
    by_cases e : i = m
    · subst e
      rw [hk, ← c1]
      refine ⟨?_, ?_, ?_⟩
      · exact sNew_selfK σ k (rk k).2 (fun _ => rowV (rk k).1)
      · rw [sPut_ne _ _ (fun e => tn e.symm)]; exact sNew_selfV _ _ _ _
      · rw [sPut_self]; exact if_pos rfl
    · obtain ⟨d1, d2, d3⟩ := c3 i (by omega)
      refine ⟨?_, ?_, ?_⟩
      · show sK (sNew σ k (rk k).2 (fun _ => rowV (rk k).1)) _ = _
        rw [sNew_neK _ _ _ (by omega)]; exact d1
      · rw [sPut_ne _ _ (by omega), sNew_neV _ _ _ (by omega)]; exact d2
      · rw [sPut_self]
        simp only
        have ne : ¬ ciK.getD i 0 - 40 = k - 40 := by
          intro q
          have b := (ciK_40 i (by omega)).1
          exact e (ciK_nd i (by omega) m hm (by omega))
        rw [if_neg ne, sNew_neV _ _ _ tn]
        exact d3
  · intro j' hj'
    rw [sPut_self]
    simp only
    have ne : ¬ j' = k - 40 := by
      intro q
      apply hj'
      rw [q, ← hk]
      exact (ciK_40 m hm).2
    rw [if_neg ne, sNew_neV _ _ _ tn]
    exact c4 j' hj'
  · intro a ha
    show sK (sNew σ k (rk k).2 (fun _ => rowV (rk k).1)) _ = _
    rw [sNew_neK _ _ _ (by omega)]; exact c6 a ha
set_option maxHeartbeats 4000000 in
theorem pc_minit {n t : Nat} {σ : ps} {x : Option Value × ps} (ht : t < σ.1) (h : prun n 135 0 (lv_args 0 [.ref t]) [] σ = some x) : ∃ σ1 : ps, CI σ t ciK.length σ1 ∧ ∃ a, x.2 = sPut σ1 a 10 (.int (Int32.ofInt (-1))) ∧ sV σ1 t 48 = .ref a := by
  have h : prun n 135 0 [(0, .ref t)] [] σ = some x := h
  obtain ⟨n1, l1, h⟩ := v_al h (by decide +kernel : pins 135 0 = some (5, 1, 0, 0, [])) (v := t) rfl
  obtain ⟨n2, l2, h⟩ := v_oinit h (by decide +kernel : pins 135 1 = some (45, 4, 0, 0, []))
  have C : CI σ t 0 σ := ⟨rfl, fun a ha => Or.inl ha, fun i hi => by omega, fun _ _ => rfl, ht, fun _ _ => rfl⟩
  obtain ⟨m0, σ0, h, C⟩ := ci_step (k := 41) C (by decide) rfl h (by decide +kernel : pins 135 4 = some (5, 5, 0, 0, [])) (by decide +kernel : pins 135 5 = some (0, 8, 200, 0, [])) (by decide +kernel : pins 135 8 = some (42, 10, ((41 : Nat) : Int), 0, [])) (by decide +kernel : pins 135 10 = some (23, 13, 13, 1, [])) rfl (by decide)
  obtain ⟨m1, σ1, h, C⟩ := ci_step (k := 44) C (by decide) rfl h (by decide +kernel : pins 135 13 = some (5, 14, 0, 0, [])) (by decide +kernel : pins 135 14 = some (0, 16, 8, 0, [])) (by decide +kernel : pins 135 16 = some (42, 18, ((44 : Nat) : Int), 0, [])) (by decide +kernel : pins 135 18 = some (23, 21, 13, 4, [])) rfl (by decide)
  obtain ⟨m2, σ2, h, C⟩ := ci_step (k := 45) C (by decide) rfl h (by decide +kernel : pins 135 21 = some (5, 22, 0, 0, [])) (by decide +kernel : pins 135 22 = some (0, 24, 8, 0, [])) (by decide +kernel : pins 135 24 = some (42, 26, ((45 : Nat) : Int), 0, [])) (by decide +kernel : pins 135 26 = some (23, 29, 13, 5, [])) rfl (by decide)
  obtain ⟨m3, σ3, h, C⟩ := ci_step (k := 46) C (by decide) rfl h (by decide +kernel : pins 135 29 = some (5, 30, 0, 0, [])) (by decide +kernel : pins 135 30 = some (0, 32, 8, 0, [])) (by decide +kernel : pins 135 32 = some (42, 34, ((46 : Nat) : Int), 0, [])) (by decide +kernel : pins 135 34 = some (23, 37, 13, 6, [])) rfl (by decide)
  obtain ⟨m4, σ4, h, C⟩ := ci_step (k := 47) C (by decide) rfl h (by decide +kernel : pins 135 37 = some (5, 38, 0, 0, [])) (by decide +kernel : pins 135 38 = some (0, 40, 8, 0, [])) (by decide +kernel : pins 135 40 = some (42, 42, ((47 : Nat) : Int), 0, [])) (by decide +kernel : pins 135 42 = some (23, 45, 13, 7, [])) rfl (by decide)
  obtain ⟨m5, σ5, h, C⟩ := ci_step (k := 48) C (by decide) rfl h (by decide +kernel : pins 135 45 = some (5, 46, 0, 0, [])) (by decide +kernel : pins 135 46 = some (0, 48, 8, 0, [])) (by decide +kernel : pins 135 48 = some (42, 50, ((48 : Nat) : Int), 0, [])) (by decide +kernel : pins 135 50 = some (23, 53, 13, 8, [])) rfl (by decide)
  obtain ⟨m6, σ6, h, C⟩ := ci_step (k := 49) C (by decide) rfl h (by decide +kernel : pins 135 53 = some (5, 54, 0, 0, [])) (by decide +kernel : pins 135 54 = some (0, 56, 8, 0, [])) (by decide +kernel : pins 135 56 = some (42, 58, ((49 : Nat) : Int), 0, [])) (by decide +kernel : pins 135 58 = some (23, 61, 13, 9, [])) rfl (by decide)
  obtain ⟨m7, σ7, h, C⟩ := ci_step (k := 50) C (by decide) rfl h (by decide +kernel : pins 135 61 = some (5, 62, 0, 0, [])) (by decide +kernel : pins 135 62 = some (0, 64, 8, 0, [])) (by decide +kernel : pins 135 64 = some (42, 66, ((50 : Nat) : Int), 0, [])) (by decide +kernel : pins 135 66 = some (23, 69, 13, 10, [])) rfl (by decide)
  obtain ⟨m8, σ8, h, C⟩ := ci_step (k := 51) C (by decide) rfl h (by decide +kernel : pins 135 69 = some (5, 70, 0, 0, [])) (by decide +kernel : pins 135 70 = some (0, 72, 8, 0, [])) (by decide +kernel : pins 135 72 = some (42, 74, ((51 : Nat) : Int), 0, [])) (by decide +kernel : pins 135 74 = some (23, 77, 13, 11, [])) rfl (by decide)
  obtain ⟨m9, σ9, h, C⟩ := ci_step (k := 52) C (by decide) rfl h (by decide +kernel : pins 135 77 = some (5, 78, 0, 0, [])) (by decide +kernel : pins 135 78 = some (0, 80, 8, 0, [])) (by decide +kernel : pins 135 80 = some (42, 82, ((52 : Nat) : Int), 0, [])) (by decide +kernel : pins 135 82 = some (23, 85, 13, 12, [])) rfl (by decide)
  obtain ⟨m10, σ10, h, C⟩ := ci_step (k := 53) C (by decide) rfl h (by decide +kernel : pins 135 85 = some (5, 86, 0, 0, [])) (by decide +kernel : pins 135 86 = some (0, 88, 8, 0, [])) (by decide +kernel : pins 135 88 = some (42, 90, ((53 : Nat) : Int), 0, [])) (by decide +kernel : pins 135 90 = some (23, 93, 13, 13, [])) rfl (by decide)
  obtain ⟨m11, σ11, h, C⟩ := ci_step (k := 54) C (by decide) rfl h (by decide +kernel : pins 135 93 = some (5, 94, 0, 0, [])) (by decide +kernel : pins 135 94 = some (0, 96, 8, 0, [])) (by decide +kernel : pins 135 96 = some (42, 98, ((54 : Nat) : Int), 0, [])) (by decide +kernel : pins 135 98 = some (23, 101, 13, 14, [])) rfl (by decide)
  obtain ⟨m12, σ12, h, C⟩ := ci_step (k := 55) C (by decide) rfl h (by decide +kernel : pins 135 101 = some (5, 102, 0, 0, [])) (by decide +kernel : pins 135 102 = some (0, 104, 8, 0, [])) (by decide +kernel : pins 135 104 = some (42, 106, ((55 : Nat) : Int), 0, [])) (by decide +kernel : pins 135 106 = some (23, 109, 13, 15, [])) rfl (by decide)
  obtain ⟨m13, σ13, h, C⟩ := ci_step (k := 56) C (by decide) rfl h (by decide +kernel : pins 135 109 = some (5, 110, 0, 0, [])) (by decide +kernel : pins 135 110 = some (0, 112, 8, 0, [])) (by decide +kernel : pins 135 112 = some (42, 114, ((56 : Nat) : Int), 0, [])) (by decide +kernel : pins 135 114 = some (23, 117, 13, 16, [])) rfl (by decide)
  obtain ⟨m14, σ14, h, C⟩ := ci_step (k := 57) C (by decide) rfl h (by decide +kernel : pins 135 117 = some (5, 118, 0, 0, [])) (by decide +kernel : pins 135 118 = some (0, 120, 8, 0, [])) (by decide +kernel : pins 135 120 = some (42, 122, ((57 : Nat) : Int), 0, [])) (by decide +kernel : pins 135 122 = some (23, 125, 13, 17, [])) rfl (by decide)
  obtain ⟨m15, σ15, h, C⟩ := ci_step (k := 58) C (by decide) rfl h (by decide +kernel : pins 135 125 = some (5, 126, 0, 0, [])) (by decide +kernel : pins 135 126 = some (0, 128, 8, 0, [])) (by decide +kernel : pins 135 128 = some (42, 130, ((58 : Nat) : Int), 0, [])) (by decide +kernel : pins 135 130 = some (23, 133, 13, 18, [])) rfl (by decide)
  obtain ⟨m16, σ16, h, C⟩ := ci_step (k := 59) C (by decide) rfl h (by decide +kernel : pins 135 133 = some (5, 134, 0, 0, [])) (by decide +kernel : pins 135 134 = some (0, 136, 8, 0, [])) (by decide +kernel : pins 135 136 = some (42, 138, ((59 : Nat) : Int), 0, [])) (by decide +kernel : pins 135 138 = some (23, 141, 13, 19, [])) rfl (by decide)
  obtain ⟨m17, σ17, h, C⟩ := ci_step (k := 60) C (by decide) rfl h (by decide +kernel : pins 135 141 = some (5, 142, 0, 0, [])) (by decide +kernel : pins 135 142 = some (0, 145, 128, 0, [])) (by decide +kernel : pins 135 145 = some (42, 147, ((60 : Nat) : Int), 0, [])) (by decide +kernel : pins 135 147 = some (23, 150, 13, 20, [])) rfl (by decide)
  obtain ⟨m18, σ18, h, C⟩ := ci_step (k := 61) C (by decide) rfl h (by decide +kernel : pins 135 150 = some (5, 151, 0, 0, [])) (by decide +kernel : pins 135 151 = some (0, 154, 128, 0, [])) (by decide +kernel : pins 135 154 = some (42, 156, ((61 : Nat) : Int), 0, [])) (by decide +kernel : pins 135 156 = some (23, 159, 13, 21, [])) rfl (by decide)
  obtain ⟨m19, σ19, h, C⟩ := ci_step (k := 62) C (by decide) rfl h (by decide +kernel : pins 135 159 = some (5, 160, 0, 0, [])) (by decide +kernel : pins 135 160 = some (0, 163, 512, 0, [])) (by decide +kernel : pins 135 163 = some (42, 165, ((62 : Nat) : Int), 0, [])) (by decide +kernel : pins 135 165 = some (23, 168, 13, 22, [])) rfl (by decide)
  obtain ⟨m20, σ20, h, C⟩ := ci_step (k := 63) C (by decide) rfl h (by decide +kernel : pins 135 168 = some (5, 169, 0, 0, [])) (by decide +kernel : pins 135 169 = some (0, 171, 32, 0, [])) (by decide +kernel : pins 135 171 = some (42, 173, ((63 : Nat) : Int), 0, [])) (by decide +kernel : pins 135 173 = some (23, 176, 13, 23, [])) rfl (by decide)
  obtain ⟨m21, σ21, h, C⟩ := ci_step (k := 64) C (by decide) rfl h (by decide +kernel : pins 135 176 = some (5, 177, 0, 0, [])) (by decide +kernel : pins 135 177 = some (0, 179, 8, 0, [])) (by decide +kernel : pins 135 179 = some (42, 181, ((64 : Nat) : Int), 0, [])) (by decide +kernel : pins 135 181 = some (23, 184, 13, 24, [])) rfl (by decide)
  obtain ⟨m22, σ22, h, C⟩ := ci_step (k := 65) C (by decide) rfl h (by decide +kernel : pins 135 184 = some (5, 185, 0, 0, [])) (by decide +kernel : pins 135 185 = some (0, 188, 512, 0, [])) (by decide +kernel : pins 135 188 = some (42, 190, ((65 : Nat) : Int), 0, [])) (by decide +kernel : pins 135 190 = some (23, 193, 13, 25, [])) rfl (by decide)
  obtain ⟨m23, σ23, h, C⟩ := ci_step (k := 66) C (by decide) rfl h (by decide +kernel : pins 135 193 = some (5, 194, 0, 0, [])) (by decide +kernel : pins 135 194 = some (0, 196, 32, 0, [])) (by decide +kernel : pins 135 196 = some (42, 198, ((66 : Nat) : Int), 0, [])) (by decide +kernel : pins 135 198 = some (23, 201, 13, 26, [])) rfl (by decide)
  obtain ⟨m24, σ24, h, C⟩ := ci_step (k := 67) C (by decide) rfl h (by decide +kernel : pins 135 201 = some (5, 202, 0, 0, [])) (by decide +kernel : pins 135 202 = some (0, 204, 32, 0, [])) (by decide +kernel : pins 135 204 = some (42, 206, ((67 : Nat) : Int), 0, [])) (by decide +kernel : pins 135 206 = some (23, 209, 13, 27, [])) rfl (by decide)
  obtain ⟨m25, σ25, h, C⟩ := ci_step (k := 68) C (by decide) rfl h (by decide +kernel : pins 135 209 = some (5, 210, 0, 0, [])) (by decide +kernel : pins 135 210 = some (0, 212, 32, 0, [])) (by decide +kernel : pins 135 212 = some (42, 214, ((68 : Nat) : Int), 0, [])) (by decide +kernel : pins 135 214 = some (23, 217, 13, 28, [])) rfl (by decide)
  obtain ⟨m26, σ26, h, C⟩ := ci_step (k := 69) C (by decide) rfl h (by decide +kernel : pins 135 217 = some (5, 218, 0, 0, [])) (by decide +kernel : pins 135 218 = some (0, 221, 512, 0, [])) (by decide +kernel : pins 135 221 = some (42, 223, ((69 : Nat) : Int), 0, [])) (by decide +kernel : pins 135 223 = some (23, 226, 13, 29, [])) rfl (by decide)
  obtain ⟨m27, σ27, h, C⟩ := ci_step (k := 70) C (by decide) rfl h (by decide +kernel : pins 135 226 = some (5, 227, 0, 0, [])) (by decide +kernel : pins 135 227 = some (0, 229, 32, 0, [])) (by decide +kernel : pins 135 229 = some (42, 231, ((70 : Nat) : Int), 0, [])) (by decide +kernel : pins 135 231 = some (23, 234, 13, 30, [])) rfl (by decide)
  obtain ⟨m28, σ28, h, C⟩ := ci_step (k := 71) C (by decide) rfl h (by decide +kernel : pins 135 234 = some (5, 235, 0, 0, [])) (by decide +kernel : pins 135 235 = some (0, 237, 8, 0, [])) (by decide +kernel : pins 135 237 = some (42, 239, ((71 : Nat) : Int), 0, [])) (by decide +kernel : pins 135 239 = some (23, 242, 13, 31, [])) rfl (by decide)
  obtain ⟨m29, σ29, h, C⟩ := ci_step (k := 72) C (by decide) rfl h (by decide +kernel : pins 135 242 = some (5, 243, 0, 0, [])) (by decide +kernel : pins 135 243 = some (0, 245, 8, 0, [])) (by decide +kernel : pins 135 245 = some (42, 247, ((72 : Nat) : Int), 0, [])) (by decide +kernel : pins 135 247 = some (23, 250, 13, 32, [])) rfl (by decide)
  obtain ⟨m30, σ30, h, C⟩ := ci_step (k := 73) C (by decide) rfl h (by decide +kernel : pins 135 250 = some (5, 251, 0, 0, [])) (by decide +kernel : pins 135 251 = some (0, 254, 192, 0, [])) (by decide +kernel : pins 135 254 = some (42, 256, ((73 : Nat) : Int), 0, [])) (by decide +kernel : pins 135 256 = some (23, 259, 13, 33, [])) rfl (by decide)
  obtain ⟨m31, σ31, h, C⟩ := ci_step (k := 74) C (by decide) rfl h (by decide +kernel : pins 135 259 = some (5, 260, 0, 0, [])) (by decide +kernel : pins 135 260 = some (0, 263, 192, 0, [])) (by decide +kernel : pins 135 263 = some (42, 265, ((74 : Nat) : Int), 0, [])) (by decide +kernel : pins 135 265 = some (23, 268, 13, 34, [])) rfl (by decide)
  obtain ⟨m32, σ32, h, C⟩ := ci_step (k := 75) C (by decide) rfl h (by decide +kernel : pins 135 268 = some (5, 269, 0, 0, [])) (by decide +kernel : pins 135 269 = some (0, 272, 192, 0, [])) (by decide +kernel : pins 135 272 = some (42, 274, ((75 : Nat) : Int), 0, [])) (by decide +kernel : pins 135 274 = some (23, 277, 13, 35, [])) rfl (by decide)
  obtain ⟨m33, σ33, h, C⟩ := ci_step (k := 76) C (by decide) rfl h (by decide +kernel : pins 135 277 = some (5, 278, 0, 0, [])) (by decide +kernel : pins 135 278 = some (0, 281, 192, 0, [])) (by decide +kernel : pins 135 281 = some (42, 283, ((76 : Nat) : Int), 0, [])) (by decide +kernel : pins 135 283 = some (23, 286, 13, 36, [])) rfl (by decide)
  obtain ⟨m34, σ34, h, C⟩ := ci_step (k := 77) C (by decide) rfl h (by decide +kernel : pins 135 286 = some (5, 287, 0, 0, [])) (by decide +kernel : pins 135 287 = some (0, 290, 192, 0, [])) (by decide +kernel : pins 135 290 = some (42, 292, ((77 : Nat) : Int), 0, [])) (by decide +kernel : pins 135 292 = some (23, 295, 13, 37, [])) rfl (by decide)
  obtain ⟨m35, σ35, h, C⟩ := ci_step (k := 78) C (by decide) rfl h (by decide +kernel : pins 135 295 = some (5, 296, 0, 0, [])) (by decide +kernel : pins 135 296 = some (0, 299, 192, 0, [])) (by decide +kernel : pins 135 299 = some (42, 301, ((78 : Nat) : Int), 0, [])) (by decide +kernel : pins 135 301 = some (23, 304, 13, 38, [])) rfl (by decide)
  obtain ⟨m36, σ36, h, C⟩ := ci_step (k := 79) C (by decide) rfl h (by decide +kernel : pins 135 304 = some (5, 305, 0, 0, [])) (by decide +kernel : pins 135 305 = some (0, 308, 192, 0, [])) (by decide +kernel : pins 135 308 = some (42, 310, ((79 : Nat) : Int), 0, [])) (by decide +kernel : pins 135 310 = some (23, 313, 13, 39, [])) rfl (by decide)
  obtain ⟨m37, σ37, h, C⟩ := ci_step (k := 80) C (by decide) rfl h (by decide +kernel : pins 135 313 = some (5, 314, 0, 0, [])) (by decide +kernel : pins 135 314 = some (0, 317, 3072, 0, [])) (by decide +kernel : pins 135 317 = some (42, 319, ((80 : Nat) : Int), 0, [])) (by decide +kernel : pins 135 319 = some (23, 322, 13, 40, [])) rfl (by decide)
  obtain ⟨m38, σ38, h, C⟩ := ci_step (k := 81) C (by decide) rfl h (by decide +kernel : pins 135 322 = some (5, 323, 0, 0, [])) (by decide +kernel : pins 135 323 = some (0, 326, 3072, 0, [])) (by decide +kernel : pins 135 326 = some (42, 328, ((81 : Nat) : Int), 0, [])) (by decide +kernel : pins 135 328 = some (23, 331, 13, 41, [])) rfl (by decide)
  obtain ⟨m39, σ39, h, C⟩ := ci_step (k := 82) C (by decide) rfl h (by decide +kernel : pins 135 331 = some (5, 332, 0, 0, [])) (by decide +kernel : pins 135 332 = some (0, 334, 160000, 0, [])) (by decide +kernel : pins 135 334 = some (42, 336, ((82 : Nat) : Int), 0, [])) (by decide +kernel : pins 135 336 = some (23, 339, 13, 42, [])) rfl (by decide)
  obtain ⟨m40, σ40, h, C⟩ := ci_step (k := 83) C (by decide) rfl h (by decide +kernel : pins 135 339 = some (5, 340, 0, 0, [])) (by decide +kernel : pins 135 340 = some (0, 343, 800, 0, [])) (by decide +kernel : pins 135 343 = some (42, 345, ((83 : Nat) : Int), 0, [])) (by decide +kernel : pins 135 345 = some (23, 348, 13, 43, [])) rfl (by decide)
  obtain ⟨m41, σ41, h, C⟩ := ci_step (k := 84) C (by decide) rfl h (by decide +kernel : pins 135 348 = some (5, 349, 0, 0, [])) (by decide +kernel : pins 135 349 = some (0, 352, 800, 0, [])) (by decide +kernel : pins 135 352 = some (42, 354, ((84 : Nat) : Int), 0, [])) (by decide +kernel : pins 135 354 = some (23, 357, 13, 44, [])) rfl (by decide)
  obtain ⟨m42, σ42, h, C⟩ := ci_step (k := 85) C (by decide) rfl h (by decide +kernel : pins 135 357 = some (5, 358, 0, 0, [])) (by decide +kernel : pins 135 358 = some (0, 361, 800, 0, [])) (by decide +kernel : pins 135 361 = some (42, 363, ((85 : Nat) : Int), 0, [])) (by decide +kernel : pins 135 363 = some (23, 366, 13, 45, [])) rfl (by decide)
  obtain ⟨m43, σ43, h, C⟩ := ci_step (k := 88) C (by decide) rfl h (by decide +kernel : pins 135 366 = some (5, 367, 0, 0, [])) (by decide +kernel : pins 135 367 = some (0, 369, 11, 0, [])) (by decide +kernel : pins 135 369 = some (42, 371, ((88 : Nat) : Int), 0, [])) (by decide +kernel : pins 135 371 = some (23, 374, 13, 48, [])) rfl (by decide)
  obtain ⟨m44, σ44, h, C⟩ := ci_step (k := 89) C (by decide) rfl h (by decide +kernel : pins 135 374 = some (5, 375, 0, 0, [])) (by decide +kernel : pins 135 375 = some (0, 378, 200, 0, [])) (by decide +kernel : pins 135 378 = some (42, 380, ((89 : Nat) : Int), 0, [])) (by decide +kernel : pins 135 380 = some (23, 383, 13, 49, [])) rfl (by decide)
  obtain ⟨m45, σ45, h, C⟩ := ci_step (k := 91) C (by decide) rfl h (by decide +kernel : pins 135 383 = some (5, 384, 0, 0, [])) (by decide +kernel : pins 135 384 = some (0, 386, 16, 0, [])) (by decide +kernel : pins 135 386 = some (42, 388, ((91 : Nat) : Int), 0, [])) (by decide +kernel : pins 135 388 = some (23, 391, 13, 51, [])) rfl (by decide)
  obtain ⟨m46, σ46, h, C⟩ := ci_step (k := 92) C (by decide) rfl h (by decide +kernel : pins 135 391 = some (5, 392, 0, 0, [])) (by decide +kernel : pins 135 392 = some (0, 395, 260, 0, [])) (by decide +kernel : pins 135 395 = some (42, 397, ((92 : Nat) : Int), 0, [])) (by decide +kernel : pins 135 397 = some (23, 400, 13, 52, [])) rfl (by decide)
  obtain ⟨m47, σ47, h, C⟩ := ci_step (k := 94) C (by decide) rfl h (by decide +kernel : pins 135 400 = some (5, 401, 0, 0, [])) (by decide +kernel : pins 135 401 = some (0, 403, 24, 0, [])) (by decide +kernel : pins 135 403 = some (42, 405, ((94 : Nat) : Int), 0, [])) (by decide +kernel : pins 135 405 = some (23, 408, 13, 54, [])) rfl (by decide)
  obtain ⟨m48, σ48, h, C⟩ := ci_step (k := 96) C (by decide) rfl h (by decide +kernel : pins 135 408 = some (5, 409, 0, 0, [])) (by decide +kernel : pins 135 409 = some (0, 412, 384, 0, [])) (by decide +kernel : pins 135 412 = some (42, 414, ((96 : Nat) : Int), 0, [])) (by decide +kernel : pins 135 414 = some (23, 417, 13, 56, [])) rfl (by decide)
  obtain ⟨m49, σ49, h, C⟩ := ci_step (k := 97) C (by decide) rfl h (by decide +kernel : pins 135 417 = some (5, 418, 0, 0, [])) (by decide +kernel : pins 135 418 = some (0, 421, 200, 0, [])) (by decide +kernel : pins 135 421 = some (42, 423, ((97 : Nat) : Int), 0, [])) (by decide +kernel : pins 135 423 = some (23, 426, 13, 57, [])) rfl (by decide)
  obtain ⟨m50, σ50, h, C⟩ := ci_step (k := 101) C (by decide) rfl h (by decide +kernel : pins 135 426 = some (5, 427, 0, 0, [])) (by decide +kernel : pins 135 427 = some (0, 430, 200, 0, [])) (by decide +kernel : pins 135 430 = some (42, 432, ((101 : Nat) : Int), 0, [])) (by decide +kernel : pins 135 432 = some (23, 435, 13, 61, [])) rfl (by decide)
  obtain ⟨m51, σ51, h, C⟩ := ci_step (k := 102) C (by decide) rfl h (by decide +kernel : pins 135 435 = some (5, 436, 0, 0, [])) (by decide +kernel : pins 135 436 = some (0, 439, 512, 0, [])) (by decide +kernel : pins 135 439 = some (42, 441, ((102 : Nat) : Int), 0, [])) (by decide +kernel : pins 135 441 = some (23, 444, 13, 62, [])) rfl (by decide)
  obtain ⟨m52, σ52, h, C⟩ := ci_step (k := 103) C (by decide) rfl h (by decide +kernel : pins 135 444 = some (5, 445, 0, 0, [])) (by decide +kernel : pins 135 445 = some (0, 448, 512, 0, [])) (by decide +kernel : pins 135 448 = some (42, 450, ((103 : Nat) : Int), 0, [])) (by decide +kernel : pins 135 450 = some (23, 453, 13, 63, [])) rfl (by decide)
  obtain ⟨m53, σ53, h, C⟩ := ci_step (k := 104) C (by decide) rfl h (by decide +kernel : pins 135 453 = some (5, 454, 0, 0, [])) (by decide +kernel : pins 135 454 = some (0, 456, 16, 0, [])) (by decide +kernel : pins 135 456 = some (42, 458, ((104 : Nat) : Int), 0, [])) (by decide +kernel : pins 135 458 = some (23, 461, 13, 64, [])) rfl (by decide)
  obtain ⟨m54, σ54, h, C⟩ := ci_step (k := 105) C (by decide) rfl h (by decide +kernel : pins 135 461 = some (5, 462, 0, 0, [])) (by decide +kernel : pins 135 462 = some (0, 464, 16, 0, [])) (by decide +kernel : pins 135 464 = some (42, 466, ((105 : Nat) : Int), 0, [])) (by decide +kernel : pins 135 466 = some (23, 469, 13, 65, [])) rfl (by decide)
  obtain ⟨m55, σ55, h, C⟩ := ci_step (k := 106) C (by decide) rfl h (by decide +kernel : pins 135 469 = some (5, 470, 0, 0, [])) (by decide +kernel : pins 135 470 = some (0, 472, 16, 0, [])) (by decide +kernel : pins 135 472 = some (42, 474, ((106 : Nat) : Int), 0, [])) (by decide +kernel : pins 135 474 = some (23, 477, 13, 66, [])) rfl (by decide)
  obtain ⟨m56, σ56, h, C⟩ := ci_step (k := 107) C (by decide) rfl h (by decide +kernel : pins 135 477 = some (5, 478, 0, 0, [])) (by decide +kernel : pins 135 478 = some (0, 480, 16, 0, [])) (by decide +kernel : pins 135 480 = some (42, 482, ((107 : Nat) : Int), 0, [])) (by decide +kernel : pins 135 482 = some (23, 485, 13, 67, [])) rfl (by decide)
  obtain ⟨k1, j1, h⟩ := v_al h (by decide +kernel : pins 135 485 = some (5, 486, 0, 0, [])) (v := t) rfl
  obtain ⟨k2, j2, _, h⟩ := v_get h (by decide +kernel : pins 135 486 = some (22, 489, 13, 48, []))
  have e48 : sV σ56 t 48 = .ref (σ.1 + 43) := (C.2.2.1 43 (by decide)).2.2
  rw [show sV σ56 t (48 : Int).toNat = .ref (σ.1 + 43) from e48] at h
  obtain ⟨k3, w1, j3, ⟨e1, i1⟩, h⟩ := u_ic h (by decide +kernel : pins 135 489 = some (0, 491, 10, 0, [])) (by decide)
  obtain ⟨k4, w2, j4, ⟨e2, _⟩, h⟩ := u_ic h (by decide +kernel : pins 135 491 = some (0, 492, (-1), 0, [])) (by decide)
  obtain ⟨k5, j5, _, h⟩ := v_iast h (by decide +kernel : pins 135 492 = some (28, 493, 0, 0, []))
  have ex := ret37_any h (by decide +kernel : pins 135 493 = some (37, 494, 0, 0, []))
  refine ⟨σ56, C, _, ?_, e48⟩
  rw [ex, e1, e2]
  rfl
