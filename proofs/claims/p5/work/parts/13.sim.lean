theorem kcl : ∀ k, k < 14 → vwCl[k]? = some (RS k, TS k, nF k) := by
  intro k hk
  match k, hk with
  | 0, _ => exact rfl
  | 1, _ => exact rfl
  | 2, _ => exact rfl
  | 3, _ => exact rfl
  | 4, _ => exact rfl
  | 5, _ => exact rfl
  | 6, _ => exact rfl
  | 7, _ => exact rfl
  | 8, _ => exact rfl
  | 9, _ => exact rfl
  | 10, _ => exact rfl
  | 11, _ => exact rfl
  | 12, _ => exact rfl
  | 13, _ => exact rfl
  | k + 14, h => exact absurd h (by omega)
theorem kG : ∀ k, k < 14 → ∀ w ∈ u_ws (RS k) (TS k) (nF k), w ∈ xG := by
  intro k hk
  match k, hk with
  | 0, _ => exact iG0
  | 1, _ => exact iG1
  | 2, _ => exact iG2
  | 3, _ => exact iG3
  | 4, _ => exact iG4
  | 5, _ => exact iG5
  | 6, _ => exact iG6
  | 7, _ => exact iG7
  | 8, _ => exact iG8
  | 9, _ => exact iG9
  | 10, _ => exact iG10
  | 11, _ => exact iG11
  | 12, _ => exact iG12
  | 13, _ => exact iG13
  | k + 14, h => exact absurd h (by omega)
theorem kty : ∀ k, k < 14 → ∀ j, j < nF k → parseFieldDescriptor (TS k j).2.2.1 = some (tyS k j) := by
  intro k hk
  match k, hk with
  | 0, _ => exact tyX0_ok
  | 1, _ => exact tyX1_ok
  | 2, _ => exact tyX2_ok
  | 3, _ => exact tyX3_ok
  | 4, _ => exact tyX4_ok
  | 5, _ => exact tyX5_ok
  | 6, _ => exact tyX6_ok
  | 7, _ => exact tyX7_ok
  | 8, _ => exact tyX8_ok
  | 9, _ => exact tyX9_ok
  | 10, _ => exact tyX10_ok
  | 11, _ => exact tyX11_ok
  | 12, _ => exact tyX12_ok
  | 13, _ => exact tyX13_ok
  | k + 14, h => exact absurd h (by omega)
theorem knm : ∀ k, k < 14 → ∀ a, a < nF k → ∀ b, b < nF k → a ≠ b → (TS k a).2.1 ≠ (TS k b).2.1 := by
  intro k hk
  match k, hk with
  | 0, _ => exact nmX0
  | 1, _ => exact nmX1
  | 2, _ => exact nmX2
  | 3, _ => exact nmX3
  | 4, _ => exact nmX4
  | 5, _ => exact nmX5
  | 6, _ => exact nmX6
  | 7, _ => exact nmX7
  | 8, _ => exact nmX8
  | 9, _ => exact nmX9
  | 10, _ => exact nmX10
  | 11, _ => exact nmX11
  | 12, _ => exact nmX12
  | 13, _ => exact nmX13
  | k + 14, h => exact absurd h (by omega)
theorem ktd : ∀ k, k < 14 → ∀ j, j < nF k → (TS k j).1 = RS k := by
  intro k hk
  match k, hk with
  | 0, _ => exact (by decide +kernel)
  | 1, _ => exact (by decide +kernel)
  | 2, _ => exact (by decide +kernel)
  | 3, _ => exact (by decide +kernel)
  | 4, _ => exact (by decide +kernel)
  | 5, _ => exact (by decide +kernel)
  | 6, _ => exact (by decide +kernel)
  | 7, _ => exact (by decide +kernel)
  | 8, _ => exact (by decide +kernel)
  | 9, _ => exact (by decide +kernel)
  | 10, _ => exact (by decide +kernel)
  | 11, _ => exact (by decide +kernel)
  | 12, _ => exact (by decide +kernel)
  | 13, _ => exact (by decide +kernel)
  | k + 14, h => exact absurd h (by omega)
theorem plk_mem {lv : LV} {i : Nat} {v : Value} (h : plk lv i = some v) : (i, v) ∈ lv := by
  induction lv with
  | nil => cases h
  | cons q r ih =>
    obtain ⟨j, w⟩ := q
    unfold plk at h
    by_cases hj : j = i
    · rw [if_pos hj] at h; cases h; subst hj; exact List.mem_cons_self
    · rw [if_neg hj] at h; exact List.mem_cons_of_mem _ (ih h)
theorem plk_at {ls : Array Slot} {nL : Nat} {lv : LV} {i : Nat} {v : Value} (hl : lv_has ls nL lv) (h : plk lv i = some v) : ls[i]? = some (.val v) := hl.2.2 (i, v) (plk_mem h)
theorem plk_get {lv : LV} {i : Nat} {v : Value} (h : plk lv i = some v) : ∃ k : Nat, lv[k]? = some (i, v) := List.getElem?_of_mem (plk_mem h)
theorem pF_obj {cy : Nat → ClassId} {σ : ps} {a k : Nat} (h : sK σ a = k) (hk : k < 14) : pF cy σ a = .inr (k, (List.range (nF k)).map (sV σ a)) := by
  unfold pF
  rw [h, if_pos hk]
theorem pF_row {cy : Nat → ClassId} {σ : ps} {a : Nat} (hk : 14 ≤ sK σ a) : pF cy σ a = .inl (cy (rk (sK σ a)).1, (rk (sK σ a)).2, rowF (rk (sK σ a)).1 (sV σ a)) := by
  unfold pF
  rw [if_neg (by omega)]
theorem sPut_self (σ : ps) (a j : Nat) (v : Value) : sV (sPut σ a j v) a = fun i => if i = j then v else sV σ a i := by
  funext i
  show pV σ.2.2.2.2 a j v a i = _
  simp [pV, sV]
theorem sPut_ne {σ : ps} {a b : Nat} (j : Nat) (v : Value) (h : b ≠ a) : sV (sPut σ a j v) b = sV σ b := by
  funext i
  show pV σ.2.2.2.2 a j v b i = _
  simp [pV, sV, h]
theorem pF_put {cy : Nat → ClassId} {σ : ps} {a k j : Nat} {v : Value} (h : sK σ a = k) (hk : k < 14) (b : Nat) : va_up (pF cy σ) a (.inr (k, ((List.range (nF k)).map (sV σ a)).set j v)) b = pF cy (sPut σ a j v) b := by
  by_cases hb : b = a
  · subst hb
    rw [va_up_self, pF_obj (σ := sPut σ b j v) (k := k) h hk, sPut_self]
    congr 2
    apply List.ext_getElem?
    intro i
    rw [List.getElem?_set, List.getElem?_map, List.getElem?_map, List.length_map, List.length_range]
    by_cases hi : i < nF k
    · rw [List.getElem?_range hi]
      by_cases hj : j = i
      · subst hj; simp [hi]
      · simp [hj, Ne.symm hj]
    · rw [List.getElem?_eq_none (by simp; omega)]
      by_cases hj : j = i
      · subst hj; simp [hi]
      · simp [hj]
  · rw [va_up_ne _ _ hb]
    unfold pF
    rw [sPut_ne j v hb]
    rfl
theorem pF_putR {cy : Nat → ClassId} {σ : ps} {a j : Nat} {v : Value} {g : (Nat → Int32) ⊕ (Nat → Int64) ⊕ (Nat → UInt32) ⊕ (Nat → UInt64) ⊕ (Nat → Option Nat)} (hk : 14 ≤ sK σ a) (hg : g = rowF (rk (sK σ a)).1 (fun i => if i = j then v else sV σ a i)) (b : Nat) : va_up (pF cy σ) a (.inl (cy (rk (sK σ a)).1, (rk (sK σ a)).2, g)) b = pF cy (sPut σ a j v) b := by
  by_cases hb : b = a
  · subst hb
    rw [va_up_self, pF_row (σ := sPut σ b j v) hk, sPut_self, hg]
    rfl
  · rw [va_up_ne _ _ hb]
    unfold pF
    rw [sPut_ne j v hb]
    rfl
theorem sNew_selfV (σ : ps) (k n : Nat) (f : Nat → Value) : sV (sNew σ k n f) σ.1 = f := va_up_self _ _ _
theorem sNew_selfK (σ : ps) (k n : Nat) (f : Nat → Value) : sK (sNew σ k n f) σ.1 = k := va_up_self _ _ _
theorem sNew_neV {σ : ps} {b : Nat} (k n : Nat) (f : Nat → Value) (h : b ≠ σ.1) : sV (sNew σ k n f) b = sV σ b := va_up_ne _ _ h
theorem sNew_neK {σ : ps} {b : Nat} (k n : Nat) (f : Nat → Value) (h : b ≠ σ.1) : sK (sNew σ k n f) b = sK σ b := va_up_ne _ _ h
theorem pF_new {cy : Nat → ClassId} {σ : ps} {k n : Nat} {f : Nat → Value} (b : Nat) : va_up (pF cy σ) σ.1 (pF cy (sNew σ k n f) σ.1) b = pF cy (sNew σ k n f) b := by
  by_cases hb : b = σ.1
  · subst hb; rw [va_up_self]
  · rw [va_up_ne _ _ hb]
    unfold pF
    rw [sNew_neV k n f hb, sNew_neK k n f hb]
theorem pfit_ok {ty : FieldType} {v : Value} (h : pfit ty v = true) : fits ty v = true ∧ narrow ty v = v := by
  cases ty with
  | boolean =>
    have h : fits .boolean v = true := h
    refine ⟨h, ?_⟩
    cases v with
    | int x =>
      simp only [fits, Bool.or_eq_true, beq_iff_eq] at h
      rcases h with h | h <;> subst h <;> decide
    | _ => cases h
  | int => exact ⟨h, by cases v <;> rfl⟩
  | long => exact ⟨h, by cases v <;> rfl⟩
  | object n => exact ⟨h, by cases v <;> rfl⟩
  | array n => exact ⟨h, by cases v <;> rfl⟩
  | _ => cases h
def Fx (p : Program) (s : State) (m : MethodId) (args : Array Value) (meth : Method) (c : Code) (D : va_G) (cy : Nat → ClassId) (mi : Nat) : Prop :=
  p.tables.exec = Jvm.exec ∧ c.code = mcc mi ∧ c.maxLocals = mL mi ∧ (∀ w ∈ xG, w.before args s = true) ∧ s.vm.findClass (RS (ow mi)) = some m.cls ∧ meth.locks = false ∧ meth.sig.returnType = rt mi ∧ meth.name = (yy mi).name ∧ xK D cy s
def Wd (D : va_G) (cy : Nat → ClassId) (A : Nat → Prop) (H0 : Heap) (s0 nL : Nat) (lv : LV) (σ : ps) (ls : Array Slot) (H : Heap) (locs : List Loc) (cells slots : Nat) : Prop :=
  lv_has ls nL lv ∧ va_P D vwCl (pW cy σ) H ∧ va_D A (pW cy σ) ∧ va_S A H0 H locs ∧ H.size = σ.1 ∧ cells + H0.size = σ.1 ∧ slots + s0 = σ.2.1
/-- from here on, whatever the machine's own state is, it comes to Q -/
def KK (p : Program) (l : Launch) (e : Env) (R : Room) (s : State) (m : MethodId) (args : Array Value) (below : List Frame) (meth : Method) (c : Code) (Q : State → Prop) (D : va_G) (cy : Nat → ClassId) (A : Nat → Prop) (mi s0 pc : Nat) (lv : LV) (st : List Value) (σ : ps) : Prop :=
  ∀ (ls : Array Slot) (H : Heap) (locs : List Loc) (cells slots : Nat), Wd D cy A s.heap s0 (mL mi) lv σ ls H locs cells slots → W p l e R s m args below meth c H locs cells slots Q (F0 m pc ls st)
section SIM
variable {p : Program} {l : Launch} {e : Env} {R : Room} {s : State} {m : MethodId} {args : Array Value} {below : List Frame} {meth : Method} {c : Code} {Q : State → Prop} {D : va_G} {cy : Nat → ClassId} {A : Nat → Prop} {mi s0 pc pc' : Nat} {lv lv' : LV} {st st' : List Value} {σ σ' : ps} {q : PI}
theorem s_const (F : Fx p s m args meth c D cy mi) (hok : okConst mi pc q) (hp : (fun q lv st σ => (some (q.2.1, lv, .int (Int32.ofInt q.2.2.1) :: st, σ) : PR)) q lv st σ = some (pc', lv', st', σ')) (kk : (KK p l e R s m args below meth c Q D cy A mi s0 pc' lv' st' σ')) : (KK p l e R s m args below meth c Q D cy A mi s0 pc lv st σ) := by
  intro ls H locs cells slots hW
  cases hp
  rcases hok with ⟨n, h1, h2, h3⟩ | ⟨n, h1, h2, h3⟩ | ⟨n, h1, h2, h3⟩ | ⟨n, h1, h2, h3⟩ | ⟨n, h1, h2, h3⟩
  · exact lv_iconst F.1 F.2.1 h1 h3 (h2 ▸ kk _ _ _ _ _ hW)
  · exact lv_bipush F.1 F.2.1 h1 h3 (h2 ▸ kk _ _ _ _ _ hW)
  · exact lv_sipush F.1 F.2.1 h1 h3 (h2 ▸ kk _ _ _ _ _ hW)
  · exact lv_ldc F.1 F.2.1 F.2.2.2.2.1 (F.2.2.2.1 _ h3) h1 (h2 ▸ kk _ _ _ _ _ hW)
  · exact lv_ldcw F.1 F.2.1 F.2.2.2.2.1 (F.2.2.2.1 _ h3) h1 (h2 ▸ kk _ _ _ _ _ hW)
theorem s_lconst (F : Fx p s m args meth c D cy mi) (hok : okLConst mi pc q) (hp : (fun q lv st σ => (some (q.2.1, lv, .long (Int64.ofInt q.2.2.1) :: st, σ) : PR)) q lv st σ = some (pc', lv', st', σ')) (kk : (KK p l e R s m args below meth c Q D cy A mi s0 pc' lv' st' σ')) : (KK p l e R s m args below meth c Q D cy A mi s0 pc lv st σ) := by
  intro ls H locs cells slots hW
  cases hp
  rcases hok with ⟨n, h1, h2, h3⟩ | ⟨n, h1, h2, h3⟩
  · exact lv_lconst F.1 F.2.1 h1 h3 (h2 ▸ kk _ _ _ _ _ hW)
  · exact lv_ldc2 F.1 F.2.1 F.2.2.2.2.1 (F.2.2.2.1 _ h3) h1 (h2 ▸ kk _ _ _ _ _ hW)
theorem s_null (F : Fx p s m args meth c D cy mi) (hok : ok1 mi pc q .aconst_null) (hp : (fun q lv st σ => (some (q.2.1, lv, .null :: st, σ) : PR)) q lv st σ = some (pc', lv', st', σ')) (kk : (KK p l e R s m args below meth c Q D cy A mi s0 pc' lv' st' σ')) : (KK p l e R s m args below meth c Q D cy A mi s0 pc lv st σ) := by
  intro ls H locs cells slots hW
  cases hp
  exact lv_null F.1 F.2.1 hok.1 (hok.2 ▸ kk _ _ _ _ _ hW)
theorem s_iload (F : Fx p s m args meth c D cy mi) (hok : okLd mi pc q .iload_n .iload) (hp : f_iload q lv st σ = some (pc', lv', st', σ')) (kk : (KK p l e R s m args below meth c Q D cy A mi s0 pc' lv' st' σ')) : (KK p l e R s m args below meth c Q D cy A mi s0 pc lv st σ) := by
  intro ls H locs cells slots hW
  unfold f_iload at hp
  split at hp
  · rename_i x hx
    cases hp
    rcases hok with ⟨k, h1, h2, h3⟩ | ⟨h1, h3⟩
    · exact lv_iload_n F.1 F.2.1 h1 h2 (plk_at hW.1 hx) (h3 ▸ kk _ _ _ _ _ hW)
    · exact lv_iload F.1 F.2.1 h1 (plk_at hW.1 hx) (h3 ▸ kk _ _ _ _ _ hW)
  · cases hp
theorem s_lload (F : Fx p s m args meth c D cy mi) (hok : okLd mi pc q .lload_n .lload) (hp : f_lload q lv st σ = some (pc', lv', st', σ')) (kk : (KK p l e R s m args below meth c Q D cy A mi s0 pc' lv' st' σ')) : (KK p l e R s m args below meth c Q D cy A mi s0 pc lv st σ) := by
  intro ls H locs cells slots hW
  unfold f_lload at hp
  split at hp
  · rename_i x hx
    cases hp
    rcases hok with ⟨k, h1, h2, h3⟩ | ⟨h1, h3⟩
    · exact lv_lload_n F.1 F.2.1 h1 h2 (plk_at hW.1 hx) (h3 ▸ kk _ _ _ _ _ hW)
    · exact lv_lload F.1 F.2.1 h1 (plk_at hW.1 hx) (h3 ▸ kk _ _ _ _ _ hW)
  · cases hp
theorem s_aload (F : Fx p s m args meth c D cy mi) (hok : okLd mi pc q .aload_n .aload) (hp : f_aload q lv st σ = some (pc', lv', st', σ')) (kk : (KK p l e R s m args below meth c Q D cy A mi s0 pc' lv' st' σ')) : (KK p l e R s m args below meth c Q D cy A mi s0 pc lv st σ) := by
  intro ls H locs cells slots hW
  unfold f_aload at hp
  split at hp
  · rename_i x hx
    cases hp
    rcases hok with ⟨k, h1, h2, h3⟩ | ⟨h1, h3⟩
    · exact lv_aload_n F.1 F.2.1 h1 h2 (plk_at hW.1 hx) (h3 ▸ kk _ _ _ _ _ hW)
    · exact lv_aload F.1 F.2.1 h1 (plk_at hW.1 hx) (h3 ▸ kk _ _ _ _ _ hW)
  · rename_i hx
    cases hp
    rcases hok with ⟨k, h1, h2, h3⟩ | ⟨h1, h3⟩
    · exact lv_aload_nN F.1 F.2.1 h1 h2 (plk_at hW.1 hx) (h3 ▸ kk _ _ _ _ _ hW)
    · exact lv_aloadN F.1 F.2.1 h1 (plk_at hW.1 hx) (h3 ▸ kk _ _ _ _ _ hW)
  · cases hp
theorem s_istore (F : Fx p s m args meth c D cy mi) (hok : okLd mi pc q .istore_n .istore ∧ q.2.2.1.toNat < mL mi) (hp : f_istore q lv st σ = some (pc', lv', st', σ')) (kk : (KK p l e R s m args below meth c Q D cy A mi s0 pc' lv' st' σ')) : (KK p l e R s m args below meth c Q D cy A mi s0 pc lv st σ) := by
  intro ls H locs cells slots hW
  unfold f_istore at hp
  split at hp
  · cases hp
    rcases hok with ⟨⟨k, h1, h2, h3⟩ | ⟨h1, h3⟩, hm⟩
    · exact lv_istore_n F.1 F.2.1 h1 h2 hW.1 hm rfl (fun ls' hl' => h3 ▸ kk _ _ _ _ _ ⟨hl', hW.2⟩)
    · exact lv_istore F.1 F.2.1 h1 hW.1 hm rfl (fun ls' hl' => h3 ▸ kk _ _ _ _ _ ⟨hl', hW.2⟩)
  · cases hp
theorem s_lstore (F : Fx p s m args meth c D cy mi) (hok : okLd mi pc q .lstore_n .lstore ∧ q.2.2.1.toNat + 1 < mL mi) (hp : f_lstore q lv st σ = some (pc', lv', st', σ')) (kk : (KK p l e R s m args below meth c Q D cy A mi s0 pc' lv' st' σ')) : (KK p l e R s m args below meth c Q D cy A mi s0 pc lv st σ) := by
  intro ls H locs cells slots hW
  unfold f_lstore at hp
  split at hp
  · cases hp
    rcases hok with ⟨⟨k, h1, h2, h3⟩ | ⟨h1, h3⟩, hm⟩
    · exact lv_lstore_n F.1 F.2.1 h1 h2 hW.1 hm rfl (fun ls' hl' => h3 ▸ kk _ _ _ _ _ ⟨hl', hW.2⟩)
    · exact lv_lstore F.1 F.2.1 h1 hW.1 hm rfl (fun ls' hl' => h3 ▸ kk _ _ _ _ _ ⟨hl', hW.2⟩)
  · cases hp
theorem s_astore (F : Fx p s m args meth c D cy mi) (hok : okLd mi pc q .astore_n .astore ∧ q.2.2.1.toNat < mL mi) (hp : f_astore q lv st σ = some (pc', lv', st', σ')) (kk : (KK p l e R s m args below meth c Q D cy A mi s0 pc' lv' st' σ')) : (KK p l e R s m args below meth c Q D cy A mi s0 pc lv st σ) := by
  intro ls H locs cells slots hW
  unfold f_astore at hp
  split at hp
  · cases hp
    rcases hok with ⟨⟨k, h1, h2, h3⟩ | ⟨h1, h3⟩, hm⟩
    · exact lv_astore_n F.1 F.2.1 h1 h2 hW.1 hm rfl (fun ls' hl' => h3 ▸ kk _ _ _ _ _ ⟨hl', hW.2⟩)
    · exact lv_astore F.1 F.2.1 h1 hW.1 hm rfl (fun ls' hl' => h3 ▸ kk _ _ _ _ _ ⟨hl', hW.2⟩)
  · cases hp
    rcases hok with ⟨⟨k, h1, h2, h3⟩ | ⟨h1, h3⟩, hm⟩
    · exact lv_astore_nN F.1 F.2.1 h1 h2 hW.1 hm rfl (fun ls' hl' => h3 ▸ kk _ _ _ _ _ ⟨hl', hW.2⟩)
    · exact lv_astoreN F.1 F.2.1 h1 hW.1 hm rfl (fun ls' hl' => h3 ▸ kk _ _ _ _ _ ⟨hl', hW.2⟩)
  · cases hp
theorem s_iinc (F : Fx p s m args meth c D cy mi) (hok : decode (mcc mi) pc = .ok (.iinc q.2.2.1.toNat q.2.2.2.1, 3) ∧ q.2.1 = pc + 3 ∧ q.2.2.1.toNat < mL mi) (hp : f_iinc q lv st σ = some (pc', lv', st', σ')) (kk : (KK p l e R s m args below meth c Q D cy A mi s0 pc' lv' st' σ')) : (KK p l e R s m args below meth c Q D cy A mi s0 pc lv st σ) := by
  intro ls H locs cells slots hW
  unfold f_iinc at hp
  split at hp
  · rename_i x hx
    cases hp
    obtain ⟨k, hk⟩ := plk_get hx
    exact lv_iinc F.1 F.2.1 hok.1 hW.1 hk rfl hok.2.2 rfl (fun ls' hl' => hok.2.1 ▸ kk _ _ _ _ _ ⟨hl', hW.2⟩)
  · cases hp
theorem s_lcmp (F : Fx p s m args meth c D cy mi) (hok : ok1 mi pc q .lcmp) (hp : f_lcmp q lv st σ = some (pc', lv', st', σ')) (kk : (KK p l e R s m args below meth c Q D cy A mi s0 pc' lv' st' σ')) : (KK p l e R s m args below meth c Q D cy A mi s0 pc lv st σ) := by
  intro ls H locs cells slots hW
  unfold f_lcmp at hp
  split at hp
  · cases hp
    exact W.lcmp F.1 F.2.1 hok.1 (hok.2 ▸ kk _ _ _ _ _ hW)
  · cases hp
theorem s_i2l (F : Fx p s m args meth c D cy mi) (hok : ok1 mi pc q .i2l) (hp : f_i2l q lv st σ = some (pc', lv', st', σ')) (kk : (KK p l e R s m args below meth c Q D cy A mi s0 pc' lv' st' σ')) : (KK p l e R s m args below meth c Q D cy A mi s0 pc lv st σ) := by
  intro ls H locs cells slots hW
  unfold f_i2l at hp
  split at hp
  · cases hp
    exact lv_i2l F.1 F.2.1 hok.1 rfl (hok.2 ▸ kk _ _ _ _ _ hW)
  · cases hp
theorem s_l2i (F : Fx p s m args meth c D cy mi) (hok : ok1 mi pc q .l2i) (hp : f_l2i q lv st σ = some (pc', lv', st', σ')) (kk : (KK p l e R s m args below meth c Q D cy A mi s0 pc' lv' st' σ')) : (KK p l e R s m args below meth c Q D cy A mi s0 pc lv st σ) := by
  intro ls H locs cells slots hW
  unfold f_l2i at hp
  split at hp
  · cases hp
    exact lv_l2i F.1 F.2.1 hok.1 rfl (hok.2 ▸ kk _ _ _ _ _ hW)
  · cases hp
theorem s_i2b (F : Fx p s m args meth c D cy mi) (hok : ok1 mi pc q .i2b) (hp : f_i2b q lv st σ = some (pc', lv', st', σ')) (kk : (KK p l e R s m args below meth c Q D cy A mi s0 pc' lv' st' σ')) : (KK p l e R s m args below meth c Q D cy A mi s0 pc lv st σ) := by
  intro ls H locs cells slots hW
  unfold f_i2b at hp
  split at hp
  · cases hp
    exact lv_i2b F.1 F.2.1 hok.1 rfl (hok.2 ▸ kk _ _ _ _ _ hW)
  · cases hp
theorem s_iop (F : Fx p s m args meth c D cy mi) (hok : ok1 mi pc q (iopI q.2.2.1)) (hp : f_iop q lv st σ = some (pc', lv', st', σ')) (kk : (KK p l e R s m args below meth c Q D cy A mi s0 pc' lv' st' σ')) : (KK p l e R s m args below meth c Q D cy A mi s0 pc lv st σ) := by
  intro ls H locs cells slots hW
  unfold f_iop at hp
  split at hp
  · rename_i y x r
    unfold iop at hp
    unfold ok1 iopI at hok
    by_cases h0 : q.2.2.1 = 0
    · simp only [h0, ↓reduceIte, Int.reduceEq] at hp hok
      cases hp; exact lv_iadd F.1 F.2.1 hok.1 (hok.2 ▸ kk _ _ _ _ _ hW)
    by_cases h1 : q.2.2.1 = 1
    · simp only [h1, ↓reduceIte, Int.reduceEq] at hp hok
      cases hp; exact lv_isub F.1 F.2.1 hok.1 (hok.2 ▸ kk _ _ _ _ _ hW)
    by_cases h2 : q.2.2.1 = 2
    · simp only [h2, ↓reduceIte, Int.reduceEq] at hp hok
      cases hp; exact lv_imul F.1 F.2.1 hok.1 (hok.2 ▸ kk _ _ _ _ _ hW)
    by_cases h3 : q.2.2.1 = 3
    · simp only [h3, ↓reduceIte, Int.reduceEq] at hp hok
      by_cases hy : y = 0
      · simp only [hy, ↓reduceIte] at hp; cases hp
      · simp only [hy, ↓reduceIte] at hp; cases hp; exact lv_idiv F.1 F.2.1 hok.1 hy (hok.2 ▸ kk _ _ _ _ _ hW)
    by_cases h4 : q.2.2.1 = 4
    · simp only [h4, ↓reduceIte, Int.reduceEq] at hp hok
      by_cases hy : y = 0
      · simp only [hy, ↓reduceIte] at hp; cases hp
      · simp only [hy, ↓reduceIte] at hp; cases hp; exact lv_irem F.1 F.2.1 hok.1 hy (hok.2 ▸ kk _ _ _ _ _ hW)
    by_cases h5 : q.2.2.1 = 5
    · simp only [h5, ↓reduceIte, Int.reduceEq] at hp hok
      cases hp; exact lv_iand F.1 F.2.1 hok.1 (hok.2 ▸ kk _ _ _ _ _ hW)
    by_cases h6 : q.2.2.1 = 6
    · simp only [h6, ↓reduceIte, Int.reduceEq] at hp hok
      cases hp; exact lv_ior F.1 F.2.1 hok.1 (hok.2 ▸ kk _ _ _ _ _ hW)
    by_cases h7 : q.2.2.1 = 7
    · simp only [h7, ↓reduceIte, Int.reduceEq] at hp hok
      cases hp; exact lv_ixor F.1 F.2.1 hok.1 (hok.2 ▸ kk _ _ _ _ _ hW)
    by_cases h8 : q.2.2.1 = 8
    · simp only [h8, ↓reduceIte, Int.reduceEq] at hp hok
      cases hp; exact lv_ishl F.1 F.2.1 hok.1 (hok.2 ▸ kk _ _ _ _ _ hW)
    by_cases h9 : q.2.2.1 = 9
    · simp only [h9, ↓reduceIte, Int.reduceEq] at hp hok
      cases hp; exact lv_ishr F.1 F.2.1 hok.1 (hok.2 ▸ kk _ _ _ _ _ hW)
    simp only [h0, h1, h2, h3, h4, h5, h6, h7, h8, h9, ↓reduceIte] at hp
    cases hp
  · cases hp
theorem s_lop (F : Fx p s m args meth c D cy mi) (hok : ok1 mi pc q (lopI q.2.2.1)) (hp : f_lop q lv st σ = some (pc', lv', st', σ')) (kk : (KK p l e R s m args below meth c Q D cy A mi s0 pc' lv' st' σ')) : (KK p l e R s m args below meth c Q D cy A mi s0 pc lv st σ) := by
  intro ls H locs cells slots hW
  unfold f_lop at hp
  split at hp
  · rename_i y x r
    unfold lop at hp
    unfold ok1 lopI at hok
    by_cases h0 : q.2.2.1 = 0
    · simp only [h0, ↓reduceIte, Int.reduceEq] at hp hok
      cases hp; exact lv_ladd F.1 F.2.1 hok.1 (hok.2 ▸ kk _ _ _ _ _ hW)
    by_cases h1 : q.2.2.1 = 1
    · simp only [h1, ↓reduceIte, Int.reduceEq] at hp hok
      cases hp; exact lv_lsub F.1 F.2.1 hok.1 (hok.2 ▸ kk _ _ _ _ _ hW)
    by_cases h2 : q.2.2.1 = 2
    · simp only [h2, ↓reduceIte, Int.reduceEq] at hp hok
      cases hp; exact lv_lmul F.1 F.2.1 hok.1 (hok.2 ▸ kk _ _ _ _ _ hW)
    by_cases h3 : q.2.2.1 = 3
    · simp only [h3, ↓reduceIte, Int.reduceEq] at hp hok
      by_cases hy : y = 0
      · simp only [hy, ↓reduceIte] at hp; cases hp
      · simp only [hy, ↓reduceIte] at hp; cases hp; exact lv_ldiv F.1 F.2.1 hok.1 hy (hok.2 ▸ kk _ _ _ _ _ hW)
    by_cases h4 : q.2.2.1 = 4
    · simp only [h4, ↓reduceIte, Int.reduceEq] at hp hok
      by_cases hy : y = 0
      · simp only [hy, ↓reduceIte] at hp; cases hp
      · simp only [hy, ↓reduceIte] at hp; cases hp; exact lv_lrem F.1 F.2.1 hok.1 hy (hok.2 ▸ kk _ _ _ _ _ hW)
    simp only [h0, h1, h2, h3, h4, ↓reduceIte] at hp
    cases hp
  · cases hp
theorem s_if (F : Fx p s m args meth c D cy mi) (hok : okBr mi pc q (.ifCond (cdI q.2.2.1))) (hp : f_if q lv st σ = some (pc', lv', st', σ')) (kk : (KK p l e R s m args below meth c Q D cy A mi s0 pc' lv' st' σ')) : (KK p l e R s m args below meth c Q D cy A mi s0 pc lv st σ) := by
  intro ls H locs cells slots hW
  unfold f_if at hp
  split at hp
  · rename_i x r
    obtain ⟨off, h1, h2, h3⟩ := hok
    cases hp
    unfold cdI at h1
    unfold icd at kk
    by_cases c0 : q.2.2.1 = 0
    · simp only [c0, ↓reduceIte, Int.reduceEq] at h1 kk
      refine lv_if_eq F.1 F.2.1 h1 h2 (fun hc => ?_) (fun hc => ?_)
      · simp only [hc, decide_true, not_false_eq_true, not_true_eq_false, ↓reduceIte] at kk; exact kk _ _ _ _ _ hW
      · simp only [hc, decide_false, not_true_eq_false, Bool.false_eq_true, ↓reduceIte] at kk; rw [h3] at kk; exact kk _ _ _ _ _ hW
    by_cases c1 : q.2.2.1 = 1
    · simp only [c1, ↓reduceIte, Int.reduceEq] at h1 kk
      refine lv_if_ne F.1 F.2.1 h1 h2 (fun hc => ?_) (fun hc => ?_)
      · simp only [hc, decide_true, not_false_eq_true, not_true_eq_false, ↓reduceIte] at kk; exact kk _ _ _ _ _ hW
      · simp only [hc, decide_false, not_true_eq_false, Bool.false_eq_true, ↓reduceIte] at kk; rw [h3] at kk; exact kk _ _ _ _ _ hW
    by_cases c2 : q.2.2.1 = 2
    · simp only [c2, ↓reduceIte, Int.reduceEq] at h1 kk
      refine lv_if_lt F.1 F.2.1 h1 h2 (fun hc => ?_) (fun hc => ?_)
      · simp only [hc, decide_true, not_false_eq_true, not_true_eq_false, ↓reduceIte] at kk; exact kk _ _ _ _ _ hW
      · simp only [hc, decide_false, not_true_eq_false, Bool.false_eq_true, ↓reduceIte] at kk; rw [h3] at kk; exact kk _ _ _ _ _ hW
    by_cases c3 : q.2.2.1 = 3
    · simp only [c3, ↓reduceIte, Int.reduceEq] at h1 kk
      refine lv_if_ge F.1 F.2.1 h1 h2 (fun hc => ?_) (fun hc => ?_)
      · simp only [hc, decide_true, not_false_eq_true, not_true_eq_false, ↓reduceIte] at kk; exact kk _ _ _ _ _ hW
      · simp only [hc, decide_false, not_true_eq_false, Bool.false_eq_true, ↓reduceIte] at kk; rw [h3] at kk; exact kk _ _ _ _ _ hW
    by_cases c4 : q.2.2.1 = 4
    · simp only [c4, ↓reduceIte, Int.reduceEq] at h1 kk
      refine lv_if_gt F.1 F.2.1 h1 h2 (fun hc => ?_) (fun hc => ?_)
      · simp only [hc, decide_true, not_false_eq_true, not_true_eq_false, ↓reduceIte] at kk; exact kk _ _ _ _ _ hW
      · simp only [hc, decide_false, not_true_eq_false, Bool.false_eq_true, ↓reduceIte] at kk; rw [h3] at kk; exact kk _ _ _ _ _ hW
    simp only [c0, c1, c2, c3, c4, ↓reduceIte] at h1 kk
    refine lv_if_le F.1 F.2.1 h1 h2 (fun hc => ?_) (fun hc => ?_)
    · simp only [hc, decide_true, not_false_eq_true, not_true_eq_false, ↓reduceIte] at kk; exact kk _ _ _ _ _ hW
    · simp only [hc, decide_false, not_true_eq_false, Bool.false_eq_true, ↓reduceIte] at kk; rw [h3] at kk; exact kk _ _ _ _ _ hW
  · cases hp
theorem s_icmp (F : Fx p s m args meth c D cy mi) (hok : okBr mi pc q (.if_icmp (cdI q.2.2.1))) (hp : f_icmp q lv st σ = some (pc', lv', st', σ')) (kk : (KK p l e R s m args below meth c Q D cy A mi s0 pc' lv' st' σ')) : (KK p l e R s m args below meth c Q D cy A mi s0 pc lv st σ) := by
  intro ls H locs cells slots hW
  unfold f_icmp at hp
  split at hp
  · rename_i y x r
    obtain ⟨off, h1, h2, h3⟩ := hok
    cases hp
    unfold cdI at h1
    unfold icd at kk
    by_cases c0 : q.2.2.1 = 0
    · simp only [c0, ↓reduceIte, Int.reduceEq] at h1 kk
      refine lv_icmp_eq F.1 F.2.1 h1 h2 (fun hc => ?_) (fun hc => ?_)
      · simp only [hc, decide_true, not_false_eq_true, not_true_eq_false, ↓reduceIte] at kk; exact kk _ _ _ _ _ hW
      · simp only [hc, decide_false, not_true_eq_false, Bool.false_eq_true, ↓reduceIte] at kk; rw [h3] at kk; exact kk _ _ _ _ _ hW
    by_cases c1 : q.2.2.1 = 1
    · simp only [c1, ↓reduceIte, Int.reduceEq] at h1 kk
      refine lv_icmp_ne F.1 F.2.1 h1 h2 (fun hc => ?_) (fun hc => ?_)
      · simp only [hc, decide_true, not_false_eq_true, not_true_eq_false, ↓reduceIte] at kk; exact kk _ _ _ _ _ hW
      · simp only [hc, decide_false, not_true_eq_false, Bool.false_eq_true, ↓reduceIte] at kk; rw [h3] at kk; exact kk _ _ _ _ _ hW
    by_cases c2 : q.2.2.1 = 2
    · simp only [c2, ↓reduceIte, Int.reduceEq] at h1 kk
      refine lv_icmp_lt F.1 F.2.1 h1 h2 (fun hc => ?_) (fun hc => ?_)
      · simp only [hc, decide_true, not_false_eq_true, not_true_eq_false, ↓reduceIte] at kk; exact kk _ _ _ _ _ hW
      · simp only [hc, decide_false, not_true_eq_false, Bool.false_eq_true, ↓reduceIte] at kk; rw [h3] at kk; exact kk _ _ _ _ _ hW
    by_cases c3 : q.2.2.1 = 3
    · simp only [c3, ↓reduceIte, Int.reduceEq] at h1 kk
      refine lv_icmp_ge F.1 F.2.1 h1 h2 (fun hc => ?_) (fun hc => ?_)
      · simp only [hc, decide_true, not_false_eq_true, not_true_eq_false, ↓reduceIte] at kk; exact kk _ _ _ _ _ hW
      · simp only [hc, decide_false, not_true_eq_false, Bool.false_eq_true, ↓reduceIte] at kk; rw [h3] at kk; exact kk _ _ _ _ _ hW
    by_cases c4 : q.2.2.1 = 4
    · simp only [c4, ↓reduceIte, Int.reduceEq] at h1 kk
      refine lv_icmp_gt F.1 F.2.1 h1 h2 (fun hc => ?_) (fun hc => ?_)
      · simp only [hc, decide_true, not_false_eq_true, not_true_eq_false, ↓reduceIte] at kk; exact kk _ _ _ _ _ hW
      · simp only [hc, decide_false, not_true_eq_false, Bool.false_eq_true, ↓reduceIte] at kk; rw [h3] at kk; exact kk _ _ _ _ _ hW
    simp only [c0, c1, c2, c3, c4, ↓reduceIte] at h1 kk
    refine lv_icmp_le F.1 F.2.1 h1 h2 (fun hc => ?_) (fun hc => ?_)
    · simp only [hc, decide_true, not_false_eq_true, not_true_eq_false, ↓reduceIte] at kk; exact kk _ _ _ _ _ hW
    · simp only [hc, decide_false, not_true_eq_false, Bool.false_eq_true, ↓reduceIte] at kk; rw [h3] at kk; exact kk _ _ _ _ _ hW
  · cases hp
theorem s_ifnull (F : Fx p s m args meth c D cy mi) (hok : okBr mi pc q .ifnull) (hp : f_ifnull q lv st σ = some (pc', lv', st', σ')) (kk : (KK p l e R s m args below meth c Q D cy A mi s0 pc' lv' st' σ')) : (KK p l e R s m args below meth c Q D cy A mi s0 pc lv st σ) := by
  intro ls H locs cells slots hW
  obtain ⟨off, h1, h2, h3⟩ := hok
  unfold f_ifnull at hp
  split at hp
  · cases hp
    exact lv_ifnull F.1 F.2.1 h1 (h3 ▸ kk _ _ _ _ _ hW)
  · cases hp
    exact lv_ifnullN F.1 F.2.1 h1 h2 (kk _ _ _ _ _ hW)
  · cases hp
theorem s_ifnonnull (F : Fx p s m args meth c D cy mi) (hok : okBr mi pc q .ifnonnull) (hp : f_ifnonnull q lv st σ = some (pc', lv', st', σ')) (kk : (KK p l e R s m args below meth c Q D cy A mi s0 pc' lv' st' σ')) : (KK p l e R s m args below meth c Q D cy A mi s0 pc lv st σ) := by
  intro ls H locs cells slots hW
  obtain ⟨off, h1, h2, h3⟩ := hok
  unfold f_ifnonnull at hp
  split at hp
  · cases hp
    exact lv_ifnonnull F.1 F.2.1 h1 h2 (kk _ _ _ _ _ hW)
  · cases hp
    exact lv_ifnonnullN F.1 F.2.1 h1 (h3 ▸ kk _ _ _ _ _ hW)
  · cases hp
theorem s_goto (F : Fx p s m args meth c D cy mi) (hok : okBr mi pc q .goto) (hp : (fun q lv st σ => (some (q.2.2.2.1.toNat, lv, st, σ) : PR)) q lv st σ = some (pc', lv', st', σ')) (kk : (KK p l e R s m args below meth c Q D cy A mi s0 pc' lv' st' σ')) : (KK p l e R s m args below meth c Q D cy A mi s0 pc lv st σ) := by
  intro ls H locs cells slots hW
  obtain ⟨off, h1, h2, h3⟩ := hok
  cases hp
  exact lv_goto F.1 F.2.1 h1 h2 (kk _ _ _ _ _ hW)
theorem s_pop (F : Fx p s m args meth c D cy mi) (hok : ok1 mi pc q .pop) (hp : f_pop q lv st σ = some (pc', lv', st', σ')) (kk : (KK p l e R s m args below meth c Q D cy A mi s0 pc' lv' st' σ')) : (KK p l e R s m args below meth c Q D cy A mi s0 pc lv st σ) := by
  intro ls H locs cells slots hW
  unfold f_pop at hp
  split at hp
  · split at hp
    · rename_i hc
      cases hp
      exact lv_pop F.1 F.2.1 hok.1 hc (hok.2 ▸ kk _ _ _ _ _ hW)
    · cases hp
  · cases hp
theorem s_dup (F : Fx p s m args meth c D cy mi) (hok : ok1 mi pc q .dup) (hp : f_dup q lv st σ = some (pc', lv', st', σ')) (kk : (KK p l e R s m args below meth c Q D cy A mi s0 pc' lv' st' σ')) : (KK p l e R s m args below meth c Q D cy A mi s0 pc lv st σ) := by
  intro ls H locs cells slots hW
  unfold f_dup at hp
  split at hp
  · split at hp
    · rename_i hc
      cases hp
      exact lv_dup F.1 F.2.1 hok.1 hc (hok.2 ▸ kk _ _ _ _ _ hW)
    · cases hp
  · cases hp
theorem s_dup2 (F : Fx p s m args meth c D cy mi) (hok : ok1 mi pc q .dup2) (hp : f_dup2 q lv st σ = some (pc', lv', st', σ')) (kk : (KK p l e R s m args below meth c Q D cy A mi s0 pc' lv' st' σ')) : (KK p l e R s m args below meth c Q D cy A mi s0 pc lv st σ) := by
  intro ls H locs cells slots hW
  unfold f_dup2 at hp
  split at hp
  · split at hp
    · rename_i hc
      cases hp
      exact lv_dup2_11 F.1 F.2.1 hok.1 hc.1 hc.2 (hok.2 ▸ kk _ _ _ _ _ hW)
    · cases hp
  · cases hp
theorem s_switch (F : Fx p s m args meth c D cy mi) (hok : okSw mi pc q) (hp : f_switch q lv st σ = some (pc', lv', st', σ')) (kk : (KK p l e R s m args below meth c Q D cy A mi s0 pc' lv' st' σ')) : (KK p l e R s m args below meth c Q D cy A mi s0 pc lv st σ) := by
  intro ls H locs cells slots hW
  unfold f_switch at hp
  split at hp
  · rename_i x r
    cases hp
    obtain ⟨d, lo, hi, offs, len, h1, h2, h3, h4, h5, h6⟩ := hok
    have kk := kk _ _ _ _ _ hW
    unfold swt at kk
    by_cases c1 : x.toInt < lo
    · rw [h2, if_pos c1] at kk; exact lv_tableOut F.1 F.2.1 h1 (Or.inl c1) h3 kk
    · rw [h2, if_neg c1] at kk
      by_cases c2 : hi < x.toInt
      · refine lv_tableOut F.1 F.2.1 h1 (Or.inr c2) h3 ?_
        rw [List.getD_eq_getElem?_getD, List.getElem?_eq_none (by rw [← h4, List.length_map, Array.length_toList]; omega)] at kk
        exact kk
      · have hlt : (x.toInt - lo).toNat < offs.size := by omega
        have ho : offs[(x.toInt - lo).toNat]? = some offs[(x.toInt - lo).toNat] := Array.getElem?_eq_getElem hlt
        refine lv_tableIn F.1 F.2.1 h1 c1 c2 ho (tgt := ((pc : Int) + offs[(x.toInt - lo).toNat]).toNat) ?_ ?_
        · have := h5 _ (List.mem_of_getElem? (by rw [Array.getElem?_toList]; exact ho))
          omega
        · rw [← h4, List.getD_eq_getElem?_getD, List.getElem?_map, Array.getElem?_toList, ho] at kk
          exact kk
  · cases hp
end SIM
