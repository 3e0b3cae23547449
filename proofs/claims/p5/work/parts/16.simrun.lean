theorem xV {own : String} {idx : Nat} {C : String} {y : MethodName} {c : ByteArray} {n : Nat} {r : Option FieldType} (h1 : Cond.methodLink own idx y ∈ xG) (h2 : Cond.instanceMethod y ∈ xG) (h3 : Cond.selects C y y ∈ xG) (h4 : Cond.initialized C ∈ xG) (h5 : Cond.code y c n r ∈ xG) : GoodIn xG (wsV own idx C y (xw y c n r)) := by
  have h : ∀ w ∈ wsV own idx C y (xw y c n r), w ∈ xG := by
    intro w hw
    unfold wsV at hw
    rcases List.mem_append.mp hw with q | q
    · rcases List.mem_cons.mp q with e | q
      · exact e ▸ h1
      · rcases List.mem_cons.mp q with e | q
        · exact e ▸ h2
        · rcases List.mem_cons.mp q with e | q
          · exact e ▸ h3
          · rcases List.mem_cons.mp q with e | q
            · exact e ▸ h4
            · exact absurd q List.not_mem_nil
    · exact xw_in h5 w q
  exact fun w hw => ⟨h w hw, xgood (h w hw)⟩
/-- the end of a method: what it gave back, and the pure heap behind it -/
def Qend (D : va_G) (cy : Nat → ClassId) (r : Option Value) (σ' : ps) (A : Nat → Prop) : Array Value → State → Outcome → State → Prop := fun _ st oc t =>
  (oc = .returned r ∧ va_P D vwCl (pW cy σ') t.heap ∧ va_D A (pW cy σ') ∧ t.heap.size = σ'.1) ∧ va_F A st t
theorem pnarO_ok {t : Option FieldType} {v : Int32} (h : pnarO t v = true) : ∃ ty, t = some ty ∧ narrow ty (.int v) = .int v := by
  unfold pnarO at h
  split at h
  · rename_i ty
    split at h
    · rename_i w hw
      rw [beq_iff_eq] at h
      subst h
      exact ⟨ty, rfl, hw⟩
    · cases h
  · cases h
theorem isLong_ok {t : Option FieldType} (h : isLong t = true) : t = some .long := by
  unfold isLong at h
  split at h
  · rfl
  · cases h
theorem isObj_ok {t : Option FieldType} (h : isObj t = true) : ∃ n, t = some (.object n) := by
  unfold isObj at h
  split at h
  · exact ⟨_, rfl⟩
  · cases h
section SR
variable {p : Program} {l : Launch} {e : Env} {R : Room} {s : State} {m : MethodId} {args : Array Value} {below : List Frame} {meth : Method} {c : Code} {D : va_G} {cy : Nat → ClassId} {A : Nat → Prop} {mi s0 pc : Nat} {lv : LV} {st : List Value} {σ : ps} {q : PI}
theorem s_ret (F : Fx p s m args meth c D cy mi) (hok : Ok mi pc q) {r : Option Value} (hp : pret (rt mi) q st = some r) : KK p l e R s m args below meth c (MQ below (Qend D cy r σ A) args s (σ.1 - s.heap.size) (σ.2.1 - s0) A) D cy A mi s0 pc lv st σ := by
  intro ls H locs cells slots hW
  obtain ⟨hl, hP, hD, hS, hz, hc1, hc2⟩ := hW
  rw [show σ.1 - s.heap.size = cells by omega, show σ.2.1 - s0 = slots by omega]
  have hq : ∀ (t : State), t.heap = H → s.WarmedH t.vm → Qend D cy r σ A args s (.returned r) t := fun t ht _ => ⟨⟨rfl, by rw [ht]; exact hP, hD, by rw [ht]; exact hz⟩, hS.F ht⟩
  have hlocks := F.2.2.2.2.2.1
  have hr := F.2.2.2.2.2.2.1
  obtain ⟨op, nx, x, y, ts⟩ := q
  unfold pret at hp
  split at hp
  · rename_i e1
    simp only at e1
    subst e1
    split at hp
    · split at hp
      · rename_i hn
        cases hp
        rw [Option.isNone_iff_eq_none] at hn
        exact W.vret F.1 F.2.1 (hr.trans hn) hq hS.2.2 hok
      · cases hp
    · cases hp
  · rename_i e1
    simp only at e1
    subst e1
    split at hp
    · split at hp
      · rename_i hn
        cases hp
        obtain ⟨ty, h1, h2⟩ := pnarO_ok hn
        exact W.zret F.1 F.2.1 (hr.trans h1) h2 hq hS.2.2 hok
      · cases hp
    · cases hp
  · rename_i e1
    simp only at e1
    subst e1
    split at hp
    · split at hp
      · rename_i hn
        cases hp
        exact W.lret F.1 F.2.1 (hr.trans (isLong_ok hn)) hq hS.2.2 hok
      · cases hp
    · cases hp
  · rename_i e1
    simp only at e1
    subst e1
    split at hp
    · split at hp
      · rename_i hn
        cases hp
        obtain ⟨n, h1⟩ := isObj_ok hn
        exact W.aret F.1 F.2.1 (hr.trans h1) (Or.inl ⟨_, rfl⟩) (Or.inr ⟨_, rfl⟩) hq hS.2.2 hok
      · cases hp
    · split at hp
      · rename_i hn
        cases hp
        obtain ⟨n, h1⟩ := isObj_ok hn
        exact W.aret F.1 F.2.1 (hr.trans h1) (Or.inl ⟨_, rfl⟩) (Or.inl rfl) hq hS.2.2 hok
      · cases hp
    · cases hp
  · cases hp
theorem q_call {H : Heap} {locs : List Loc} {cells slots mc ms : Nat} {Q : State → Prop} {ls : Array Slot} {st0 rest : List Value} {a : Array Value} {r : Option Value} {σ1 : ps} (hr : va_Run p l e R s m args below meth c H locs cells slots mc ms (F0 m pc ls st0) rest (Qend D cy r σ1 (va_A (pW cy σ) σ.1) a) (va_A (pW cy σ) σ.1)) (hz : H.size = σ.1) (hD : va_D A (pW cy σ)) (hS : va_S A s.heap H locs) (hA : ∀ q, s.heap.size ≤ q → A q)
    (kk : ∀ (H1 : Heap) (locs1 : List Loc), va_P D vwCl (pW cy σ1) H1 → va_D A (pW cy σ1) → va_S A s.heap H1 locs1 → H1.size = σ1.1 → W p l e R s m args below meth c H1 locs1 (cells + mc) (slots + ms) Q (F0 m (pc + 3) ls (r.toList ++ rest))) : W p l e R s m args below meth c H locs cells slots Q (F0 m pc ls st0) := by
  have hFc : ∀ q, va_A (pW cy σ) σ.1 q → A q := by
    intro q hq
    rcases hq with ⟨k, x, h⟩ | h
    · exact hD.2 _ _ h
    · exact hA q (by have := hS.1; omega)
  intro T hT X
  obtain ⟨v, st₀, t, T', L, h0, X', hL, e1, e2, ⟨⟨hv, hP1, hD1, hz1⟩, hz2, hk⟩, stp⟩ := hr T hT X
  cases hv
  rw [h0] at hz2 hk
  obtain ⟨t2, a1, b1⟩ := kk T'.heap (locs ++ L) (by rw [e1]; exact hP1) (hD1.weaken (fun _ x _ h => hFc x.1 h))
    ⟨Nat.le_trans hS.1 (by rw [e1]; exact hz2), fun q h1 h2 => by rw [e1, hk q (Nat.lt_of_lt_of_le h1 hS.1) (fun z => h2 (hFc q z))]; exact hS.2.1 q h1 h2, fun q hq => by
      rcases List.mem_append.mp hq with h | h
      · exact hS.2.2 q h
      · exact hFc _ (hL q h)⟩ (by rw [e1]; exact hz1) T' rfl X'
  exact ⟨t2, stp t2 a1, b1⟩
end SR
/-- a method's contract by its pure run -/
def pMet (l : Launch) (D : va_G) (cy : Nat → ClassId) (k : Nat) (as : List Value) (σ : ps) (r : Option Value) (σ1 : ps) : Prop :=
  Met l (yy k) (xw (yy k) (mcc k) (mL k) (rt k)) { frames := fr k, cells := σ1.1 - σ.1, slots := σ1.2.1 - σ.2.1, locals := lo k } (va_Pc as (xPre D cy σ.1 (pW cy σ))) (Qend D cy r σ1 (va_A (pW cy σ) σ.1)) (σ1.1 - σ.1) (σ1.2.1 - σ.2.1) (va_A (pW cy σ) σ.1)
theorem pMet_of {l : Launch} {D : va_G} {cy : Nat → ClassId} {k : Nat} {as : List Value} {σ σ1 : ps} {r : Option Value} (hk : k < 203) (hfit : (lg_sl as).length ≤ mL k) (hm : σ.1 ≤ σ1.1 ∧ σ.2.1 ≤ σ1.2.1)
    (h : ∀ (p : Program) (e : Env) (R : Room) (s : State) (m : MethodId) (args : Array Value) (below : List Frame) (meth : Method) (c : Code) (A : Nat → Prop) (s0 : Nat), Fx p s m args meth c D cy k → fr k ≤ R.frames → lo k ≤ R.locals → σ1.1 ≤ s.heap.size + R.cells → σ1.2.1 ≤ s0 + R.slots → (∀ q, s.heap.size ≤ q → A q) → KK p l e R s m args below meth c (MQ below (Qend D cy r σ1 A) args s (σ1.1 - s.heap.size) (σ1.2.1 - s0) A) D cy A k s0 0 (lv_args 0 as) [] σ) : pMet l D cy k as σ r σ1 := by
  obtain ⟨⟨hpl, hcls⟩, hcode, hini, hmh, hvh, hpar⟩ := mOk k hk
  refine Met.ofW (cc := mcc k) (maxL := mL k) (ret := rt k) hpl rfl ?_
  intro p e s m args below meth c s₁ B hml hv
  obtain ⟨rfl, hsz, hP, hK, hD0⟩ := hv
  have hts0 := atoms_spec (ws := xw (yy k) (mcc k) (mL k) (rt k)) B.pre
  have hts : ∀ w ∈ xG, w.before as.toArray s = true := fun w h => hts0 w (List.mem_cons_of_mem _ h)
  have hown : s.vm.findClass (RS (ow k)) = some m.cls := hcls ▸ findClass_of_methodNamed B.named
  have hnm : meth.name = (yy k).name := (name_of_methodNamed B.named B.method).1
  have hD := hD0.self (sz := s.heap.size)
  have hl := lv_entry as (n := mL k) hfit
  rw [lg_entry_eq]
  have q := h p e (headSpec (xw (yy k) (mcc k) (mL k) (rt k)) { frames := fr k, cells := σ1.1 - σ.1, slots := σ1.2.1 - σ.2.1, locals := lo k }).room s m as.toArray below meth c (va_A (pW cy σ) σ.1) σ.2.1 ⟨B.exec, B.bytes, hml, hts, hown, B.notSynchronized, B.returns, hnm, hK⟩ (Nat.le_refl _) (Nat.le_refl _) (by show _ ≤ _ + (σ1.1 - σ.1); omega) (by show _ ≤ _ + (σ1.2.1 - σ.2.1); omega) (fun q hq => Or.inr (by omega))
  rw [hsz] at q
  exact q _ s.heap [] 0 0 ⟨hl, hP, hsz ▸ hD, va_S.rf, hsz, by omega, by omega⟩

set_option maxRecDepth 100000 in
set_option maxHeartbeats 4000000 in
theorem owLt_0 (k : Nat) (h : k < 50) : (fun mi : Nat => ow mi < 14) (0 + k) := by
  match k, h with
  | 0, _ => exact (by decide)
  | 1, _ => exact (by decide)
  | 2, _ => exact (by decide)
  | 3, _ => exact (by decide)
  | 4, _ => exact (by decide)
  | 5, _ => exact (by decide)
  | 6, _ => exact (by decide)
  | 7, _ => exact (by decide)
  | 8, _ => exact (by decide)
  | 9, _ => exact (by decide)
  | 10, _ => exact (by decide)
  | 11, _ => exact (by decide)
  | 12, _ => exact (by decide)
  | 13, _ => exact (by decide)
  | 14, _ => exact (by decide)
  | 15, _ => exact (by decide)
  | 16, _ => exact (by decide)
  | 17, _ => exact (by decide)
  | 18, _ => exact (by decide)
  | 19, _ => exact (by decide)
  | 20, _ => exact (by decide)
  | 21, _ => exact (by decide)
  | 22, _ => exact (by decide)
  | 23, _ => exact (by decide)
  | 24, _ => exact (by decide)
  | 25, _ => exact (by decide)
  | 26, _ => exact (by decide)
  | 27, _ => exact (by decide)
  | 28, _ => exact (by decide)
  | 29, _ => exact (by decide)
  | 30, _ => exact (by decide)
  | 31, _ => exact (by decide)
  | 32, _ => exact (by decide)
  | 33, _ => exact (by decide)
  | 34, _ => exact (by decide)
  | 35, _ => exact (by decide)
  | 36, _ => exact (by decide)
  | 37, _ => exact (by decide)
  | 38, _ => exact (by decide)
  | 39, _ => exact (by decide)
  | 40, _ => exact (by decide)
  | 41, _ => exact (by decide)
  | 42, _ => exact (by decide)
  | 43, _ => exact (by decide)
  | 44, _ => exact (by decide)
  | 45, _ => exact (by decide)
  | 46, _ => exact (by decide)
  | 47, _ => exact (by decide)
  | 48, _ => exact (by decide)
  | 49, _ => exact (by decide)
  | k + 50, h => exact absurd h (by omega)
set_option maxRecDepth 100000 in
set_option maxHeartbeats 4000000 in
theorem owLt_1 (k : Nat) (h : k < 50) : (fun mi : Nat => ow mi < 14) (50 + k) := by
  match k, h with
  | 0, _ => exact (by decide)
  | 1, _ => exact (by decide)
  | 2, _ => exact (by decide)
  | 3, _ => exact (by decide)
  | 4, _ => exact (by decide)
  | 5, _ => exact (by decide)
  | 6, _ => exact (by decide)
  | 7, _ => exact (by decide)
  | 8, _ => exact (by decide)
  | 9, _ => exact (by decide)
  | 10, _ => exact (by decide)
  | 11, _ => exact (by decide)
  | 12, _ => exact (by decide)
  | 13, _ => exact (by decide)
  | 14, _ => exact (by decide)
  | 15, _ => exact (by decide)
  | 16, _ => exact (by decide)
  | 17, _ => exact (by decide)
  | 18, _ => exact (by decide)
  | 19, _ => exact (by decide)
  | 20, _ => exact (by decide)
  | 21, _ => exact (by decide)
  | 22, _ => exact (by decide)
  | 23, _ => exact (by decide)
  | 24, _ => exact (by decide)
  | 25, _ => exact (by decide)
  | 26, _ => exact (by decide)
  | 27, _ => exact (by decide)
  | 28, _ => exact (by decide)
  | 29, _ => exact (by decide)
  | 30, _ => exact (by decide)
  | 31, _ => exact (by decide)
  | 32, _ => exact (by decide)
  | 33, _ => exact (by decide)
  | 34, _ => exact (by decide)
  | 35, _ => exact (by decide)
  | 36, _ => exact (by decide)
  | 37, _ => exact (by decide)
  | 38, _ => exact (by decide)
  | 39, _ => exact (by decide)
  | 40, _ => exact (by decide)
  | 41, _ => exact (by decide)
  | 42, _ => exact (by decide)
  | 43, _ => exact (by decide)
  | 44, _ => exact (by decide)
  | 45, _ => exact (by decide)
  | 46, _ => exact (by decide)
  | 47, _ => exact (by decide)
  | 48, _ => exact (by decide)
  | 49, _ => exact (by decide)
  | k + 50, h => exact absurd h (by omega)
set_option maxRecDepth 100000 in
set_option maxHeartbeats 4000000 in
theorem owLt_2 (k : Nat) (h : k < 50) : (fun mi : Nat => ow mi < 14) (100 + k) := by
  match k, h with
  | 0, _ => exact (by decide)
  | 1, _ => exact (by decide)
  | 2, _ => exact (by decide)
  | 3, _ => exact (by decide)
  | 4, _ => exact (by decide)
  | 5, _ => exact (by decide)
  | 6, _ => exact (by decide)
  | 7, _ => exact (by decide)
  | 8, _ => exact (by decide)
  | 9, _ => exact (by decide)
  | 10, _ => exact (by decide)
  | 11, _ => exact (by decide)
  | 12, _ => exact (by decide)
  | 13, _ => exact (by decide)
  | 14, _ => exact (by decide)
  | 15, _ => exact (by decide)
  | 16, _ => exact (by decide)
  | 17, _ => exact (by decide)
  | 18, _ => exact (by decide)
  | 19, _ => exact (by decide)
  | 20, _ => exact (by decide)
  | 21, _ => exact (by decide)
  | 22, _ => exact (by decide)
  | 23, _ => exact (by decide)
  | 24, _ => exact (by decide)
  | 25, _ => exact (by decide)
  | 26, _ => exact (by decide)
  | 27, _ => exact (by decide)
  | 28, _ => exact (by decide)
  | 29, _ => exact (by decide)
  | 30, _ => exact (by decide)
  | 31, _ => exact (by decide)
  | 32, _ => exact (by decide)
  | 33, _ => exact (by decide)
  | 34, _ => exact (by decide)
  | 35, _ => exact (by decide)
  | 36, _ => exact (by decide)
  | 37, _ => exact (by decide)
  | 38, _ => exact (by decide)
  | 39, _ => exact (by decide)
  | 40, _ => exact (by decide)
  | 41, _ => exact (by decide)
  | 42, _ => exact (by decide)
  | 43, _ => exact (by decide)
  | 44, _ => exact (by decide)
  | 45, _ => exact (by decide)
  | 46, _ => exact (by decide)
  | 47, _ => exact (by decide)
  | 48, _ => exact (by decide)
  | 49, _ => exact (by decide)
  | k + 50, h => exact absurd h (by omega)
set_option maxRecDepth 100000 in
set_option maxHeartbeats 4000000 in
theorem owLt_3 (k : Nat) (h : k < 50) : (fun mi : Nat => ow mi < 14) (150 + k) := by
  match k, h with
  | 0, _ => exact (by decide)
  | 1, _ => exact (by decide)
  | 2, _ => exact (by decide)
  | 3, _ => exact (by decide)
  | 4, _ => exact (by decide)
  | 5, _ => exact (by decide)
  | 6, _ => exact (by decide)
  | 7, _ => exact (by decide)
  | 8, _ => exact (by decide)
  | 9, _ => exact (by decide)
  | 10, _ => exact (by decide)
  | 11, _ => exact (by decide)
  | 12, _ => exact (by decide)
  | 13, _ => exact (by decide)
  | 14, _ => exact (by decide)
  | 15, _ => exact (by decide)
  | 16, _ => exact (by decide)
  | 17, _ => exact (by decide)
  | 18, _ => exact (by decide)
  | 19, _ => exact (by decide)
  | 20, _ => exact (by decide)
  | 21, _ => exact (by decide)
  | 22, _ => exact (by decide)
  | 23, _ => exact (by decide)
  | 24, _ => exact (by decide)
  | 25, _ => exact (by decide)
  | 26, _ => exact (by decide)
  | 27, _ => exact (by decide)
  | 28, _ => exact (by decide)
  | 29, _ => exact (by decide)
  | 30, _ => exact (by decide)
  | 31, _ => exact (by decide)
  | 32, _ => exact (by decide)
  | 33, _ => exact (by decide)
  | 34, _ => exact (by decide)
  | 35, _ => exact (by decide)
  | 36, _ => exact (by decide)
  | 37, _ => exact (by decide)
  | 38, _ => exact (by decide)
  | 39, _ => exact (by decide)
  | 40, _ => exact (by decide)
  | 41, _ => exact (by decide)
  | 42, _ => exact (by decide)
  | 43, _ => exact (by decide)
  | 44, _ => exact (by decide)
  | 45, _ => exact (by decide)
  | 46, _ => exact (by decide)
  | 47, _ => exact (by decide)
  | 48, _ => exact (by decide)
  | 49, _ => exact (by decide)
  | k + 50, h => exact absurd h (by omega)
set_option maxRecDepth 100000 in
set_option maxHeartbeats 4000000 in
theorem owLt_4 (k : Nat) (h : k < 3) : (fun mi : Nat => ow mi < 14) (200 + k) := by
  match k, h with
  | 0, _ => exact (by decide)
  | 1, _ => exact (by decide)
  | 2, _ => exact (by decide)
  | k + 3, h => exact absurd h (by omega)
set_option maxRecDepth 100000 in
set_option maxHeartbeats 4000000 in
theorem owLt (mi : Nat) (h : mi < 203) : ow mi < 14 := by
  by_cases h0 : mi < 50
  · have := owLt_0 (mi - 0) (by omega); rw [show 0 + (mi - 0) = mi by omega] at this; exact this
  by_cases h1 : mi < 100
  · have := owLt_1 (mi - 50) (by omega); rw [show 50 + (mi - 50) = mi by omega] at this; exact this
  by_cases h2 : mi < 150
  · have := owLt_2 (mi - 100) (by omega); rw [show 100 + (mi - 100) = mi by omega] at this; exact this
  by_cases h3 : mi < 200
  · have := owLt_3 (mi - 150) (by omega); rw [show 150 + (mi - 150) = mi by omega] at this; exact this
  have := owLt_4 (mi - 200) (by omega); rw [show 200 + (mi - 200) = mi by omega] at this; exact this
theorem callRec0 {σ : ps} {k : Nat} {as : List Value} (h : callRec σ 0 k as = true) : ∃ b As, as = .ref b :: As ∧ b ∈ sL σ ∧ sK σ b = ow k := by
  unfold callRec at h
  split at h
  · rw [if_pos rfl] at h
    exact ⟨_, _, rfl, pis_ok h⟩
  · exact absurd h (by decide)
theorem callRec2 {σ : ps} {mode : Int} {k : Nat} {as : List Value} (hm : ¬ mode = 1) (h : callRec σ mode k as = true) : ∃ b As, as = .ref b :: As := by
  unfold callRec at h
  split at h
  · exact ⟨_, _, rfl⟩
  · rw [decide_eq_true_eq] at h
    exact absurd h hm
theorem st_split {st : List Value} {n : Nat} {b : Value} {As : List Value} (h : (st.take n).reverse = b :: As) : st = As.reverse ++ b :: st.drop n := by
  have h1 : st.take n = As.reverse ++ [b] := by rw [← List.reverse_reverse (st.take n), h]; simp
  calc st = st.take n ++ st.drop n := (List.take_append_drop n st).symm
    _ = As.reverse ++ b :: st.drop n := by rw [h1]; simp
set_option maxHeartbeats 4000000 in
theorem s_call {p : Program} {l : Launch} {e : Env} {R : Room} {s : State} {m : MethodId} {args : Array Value} {below : List Frame} {meth : Method} {c : Code} {Q : State → Prop} {D : va_G} {cy : Nat → ClassId} {A : Nat → Prop} {mi s0 pc : Nat} {lv : LV} {st : List Value} {σ σ1 : ps} {q : PI} {r : Option Value} (F : Fx p s m args meth c D cy mi) (hok : okCall mi pc q) (hk : q.2.2.1.toNat < 203) (hfr : fr mi ≤ R.frames) (hlo : lo mi ≤ R.locals) (hRc : σ1.1 ≤ s.heap.size + R.cells) (hRs : σ1.2.1 ≤ s0 + R.slots) (hA : ∀ q, s.heap.size ≤ q → A q)
    (hc : callOk σ q.2.2.2.1 q.2.2.1.toNat (np q.2.2.1.toNat) st = true) (hM : pMet l D cy q.2.2.1.toNat (st.take (np q.2.2.1.toNat)).reverse σ r σ1) (hm : σ.1 ≤ σ1.1 ∧ σ.2.1 ≤ σ1.2.1)
    (kk : KK p l e R s m args below meth c Q D cy A mi s0 q.2.1 lv (r.toList ++ st.drop (np q.2.2.1.toNat)) σ1) : KK p l e R s m args below meth c Q D cy A mi s0 pc lv st σ := by
  intro ls H locs cells slots hW
  obtain ⟨hl, hP, hD, hS, hz, hc1, hc2⟩ := hW
  obtain ⟨hnx, hf1, hf2, -, idx, hok⟩ := hok
  obtain ⟨⟨hpl, hcls⟩, hcode, hini, hmh, hvh, hpar⟩ := mOk _ hk
  unfold callOk at hc
  rw [Bool.and_eq_true, Bool.and_eq_true, Bool.and_eq_true, decide_eq_true_eq, decide_eq_true_eq, decide_eq_true_eq] at hc
  obtain ⟨hlen, hcat, hfit, hrec⟩ := hc
  have hts := F.2.2.2.1
  have fix : CallFix p m c (mcc mi) (mL mi) s args xG (RS (ow mi)) := ⟨F.1, F.2.1, F.2.2.1, F.2.2.2.2.1, hts⟩
  have hK := F.2.2.2.2.2.2.2.2
  have hRR : fr q.2.2.1.toNat + 1 ≤ R.frames ∧ 8 + (mL q.2.2.1.toNat + 11) + lo q.2.2.1.toNat ≤ R.locals := ⟨by omega, by omega⟩
  have hcs : cells + (σ1.1 - σ.1) ≤ R.cells ∧ slots + (σ1.2.1 - σ.2.1) ≤ R.slots := ⟨by omega, by omega⟩
  have hlen2 : (st.take (np q.2.2.1.toNat)).reverse.length = np q.2.2.1.toNat := by rw [List.length_reverse, List.length_take]; omega
  have hroom : ∀ pc ls st1, 2 * (F0 m pc ls st1).monitorRoom + ((st.drop (np q.2.2.1.toNat)).map fun v => v.category).sum ≤ 8 := fun pc ls st1 => lv_room (rest := st1) hcat
  have go : ∀ {a : Array Value}, va_Run p l e R s m args below meth c H locs cells slots (σ1.1 - σ.1) (σ1.2.1 - σ.2.1) (F0 m pc ls st) (st.drop (np q.2.2.1.toNat)) (Qend D cy r σ1 (va_A (pW cy σ) σ.1) a) (va_A (pW cy σ) σ.1) → W p l e R s m args below meth c H locs cells slots Q (F0 m pc ls st) := fun hr =>
    q_call hr hz hD hS hA (fun H1 locs1 hP1 hD1 hS1 hz1 => hnx ▸ kk _ _ _ _ _ ⟨hl, hP1, hD1, hS1, hz1, by omega, by omega⟩)
  unfold pMet at hM
  rcases hok with ⟨hmode, hnp, hd, h1, h2, h3⟩ | ⟨hmode, hnp, hd, h1, h2⟩ | ⟨hmode, hnp, hrt, hd, h1, h2, h3⟩ | ⟨hmode, hnp, hrt, hd, h1, h2, h3⟩
  · rw [hmode] at hrec
    obtain ⟨b, As, has, hbL, hbK⟩ := callRec0 hrec
    have hst := st_split has
    rw [has] at hM hlen2
    have how : ow q.2.2.1.toNat < 14 := owLt _ hk
    obtain ⟨q0, h0⟩ := pW_at cy hbL
    rw [pF_obj hbK how] at h0
    have hpre := xpreV (As := As) hK hP hD q0 _ h0 (kcl _ how) rfl
    rw [hz] at hpre
    have hini' : Cond.initialized (RS (ow q.2.2.1.toNat)) ∈ xG := hcls ▸ hini
    exact go (va_runV fix hM (cwV (npar q.2.2.1.toNat) hts (xV h1 h2 h3 hini' hcode) rfl rfl rfl ⟨hcls, hmh, hvh, hpar⟩ hRR) hpre rfl (by simp only [List.length_cons] at hlen2; omega) hl.1 hst (hroom _ _ _) hd hcs)
  · have hst : st = (st.take (np q.2.2.1.toNat)).reverse.reverse ++ st.drop (np q.2.2.1.toNat) := by rw [List.reverse_reverse, List.take_append_drop]
    have hpre := xpreS (av := (st.take (np q.2.2.1.toNat)).reverse) hK hP hD
    rw [hz] at hpre
    exact go (va_runS fix hM ⟨callB_of (npar q.2.2.1.toNat) hts (xw_good hcode) rfl rfl rfl (hts _ hini) (hts _ h1) ⟨hmh, hvh, hpar⟩ hRR, hts _ h2⟩ hpre rfl (by omega) hl.1 hst (hroom _ _ _) hd hcs)
  · obtain ⟨b, As, has⟩ := callRec2 (by rw [hmode]; decide) hrec
    have hst := st_split has
    rw [has] at hM hlen2
    rw [hrt] at hM hcode
    have hpre := xpreS (av := .ref b :: As) hK hP hD
    rw [hz] at hpre
    exact go (va_runI fix hM ⟨callB_of (npar q.2.2.1.toNat) hts (xw_good hcode) rfl rfl rfl (hts _ hini) (hts _ h1) ⟨hmh, hvh, hpar⟩ hRR, h3, hts _ h2⟩ hpre rfl (by simp only [List.length_cons] at hlen2; omega) hl.1 hst (hroom _ _ _) hd hcs)
  · obtain ⟨b, As, has⟩ := callRec2 (by rw [hmode]; decide) hrec
    have hst := st_split has
    rw [has] at hM hlen2
    rw [hrt] at hM hcode
    have hpre := xpreS (av := .ref b :: As) hK hP hD
    rw [hz] at hpre
    exact go (va_runIN fix hM ⟨va_cnB (npar q.2.2.1.toNat) hts (xw_good hcode) rfl rfl rfl (hK.2.2 _ h1) (hts _ hini) ⟨hmh, hvh, hpar⟩ hRR, h3, hts _ h2⟩ hpre rfl (by simp only [List.length_cons] at hlen2; omega) hl.1 hst (hroom _ _ _) hd hcs)
theorem s_step {p : Program} {l : Launch} {e : Env} {R : Room} {s : State} {m : MethodId} {args : Array Value} {below : List Frame} {meth : Method} {c : Code} {Q : State → Prop} {D : va_G} {cy : Nat → ClassId} {A : Nat → Prop} {mi s0 pc pc' : Nat} {lv lv' : LV} {st st' : List Value} {σ σ' : ps} {q : PI} (F : Fx p s m args meth c D cy mi) (hok : Ok mi pc q) (hp : pst q lv st σ = some (pc', lv', st', σ')) (hfr : fr mi ≤ R.frames) (hlo : lo mi ≤ R.locals) (hRc : σ'.1 ≤ s.heap.size + R.cells) (hRs : σ'.2.1 ≤ s0 + R.slots) (hA : ∀ q, s.heap.size ≤ q → A q) (kk : KK p l e R s m args below meth c Q D cy A mi s0 pc' lv' st' σ') : KK p l e R s m args below meth c Q D cy A mi s0 pc lv st σ := by
  obtain ⟨op, nx, x, y, ts⟩ := q
  unfold pst at hp
  split at hp
  · rename_i e1; simp only at e1; subst e1; exact s_const F hok hp kk
  · rename_i e1; simp only at e1; subst e1; exact s_lconst F hok hp kk
  · rename_i e1; simp only at e1; subst e1; exact s_null F hok hp kk
  · rename_i e1; simp only at e1; subst e1; exact s_iload F hok hp kk
  · rename_i e1; simp only at e1; subst e1; exact s_lload F hok hp kk
  · rename_i e1; simp only at e1; subst e1; exact s_aload F hok hp kk
  · rename_i e1; simp only at e1; subst e1; exact s_istore F hok hp kk
  · rename_i e1; simp only at e1; subst e1; exact s_lstore F hok hp kk
  · rename_i e1; simp only at e1; subst e1; exact s_astore F hok hp kk
  · rename_i e1; simp only at e1; subst e1; exact s_iinc F hok hp kk
  · rename_i e1; simp only at e1; subst e1; exact s_iop F hok hp kk
  · rename_i e1; simp only at e1; subst e1; exact s_lop F hok hp kk
  · rename_i e1; simp only at e1; subst e1; exact s_lcmp F hok hp kk
  · rename_i e1; simp only at e1; subst e1; exact s_i2l F hok hp kk
  · rename_i e1; simp only at e1; subst e1; exact s_l2i F hok hp kk
  · rename_i e1; simp only at e1; subst e1; exact s_i2b F hok hp kk
  · rename_i e1; simp only at e1; subst e1; exact s_if F hok hp kk
  · rename_i e1; simp only at e1; subst e1; exact s_icmp F hok hp kk
  · rename_i e1; simp only at e1; subst e1; exact s_ifnull F hok hp kk
  · rename_i e1; simp only at e1; subst e1; exact s_ifnonnull F hok hp kk
  · rename_i e1; simp only at e1; subst e1; exact s_goto F hok hp kk
  · rename_i e1; simp only at e1; subst e1; exact s_switch F hok hp kk
  · rename_i e1; simp only at e1; subst e1; exact s_get F hok hp kk
  · rename_i e1; simp only at e1; subst e1; exact s_put F hok hp kk
  · rename_i e1; simp only at e1; subst e1; exact s_iald F hok hp kk
  · rename_i e1; simp only at e1; subst e1; exact s_bald F hok hp kk
  · rename_i e1; simp only at e1; subst e1; exact s_lald F hok hp kk
  · rename_i e1; simp only at e1; subst e1; exact s_aald F hok hp kk
  · rename_i e1; simp only at e1; subst e1; exact s_iast F hok hp kk
  · rename_i e1; simp only at e1; subst e1; exact s_bast F hok hp kk
  · rename_i e1; simp only at e1; subst e1; exact s_last F hok hp kk
  · rename_i e1; simp only at e1; subst e1; exact s_aast F hok hp kk
  · rename_i e1; simp only at e1; subst e1; exact s_pop F hok hp kk
  · rename_i e1; simp only at e1; subst e1; exact s_dup F hok hp kk
  · rename_i e1; simp only at e1; subst e1; exact s_dup2 F hok hp kk
  · rename_i e1; simp only at e1; subst e1; exact s_new F hok hRc hRs hA hp kk
  · rename_i e1; simp only at e1; subst e1; exact s_newa F hok hRc hRs hA hp kk
  · rename_i e1; simp only at e1; subst e1; exact s_imin F hok hfr hlo hRc hRs hA hp kk
  · rename_i e1; simp only at e1; subst e1; exact s_lmin F hok hfr hlo hRc hRs hA hp kk
  · rename_i e1; simp only at e1; subst e1; exact s_oinit F hok hfr hlo hp kk
  · cases hp
theorem simRun (l : Launch) (D : va_G) (cy : Nat → ClassId) : ∀ (n mi pc : Nat) (lv : LV) (st : List Value) (σ : ps) (r : Option Value) (σ' : ps), prun n mi pc lv st σ = some (r, σ') → ∀ (p : Program) (e : Env) (R : Room) (s : State) (m : MethodId) (args : Array Value) (below : List Frame) (meth : Method) (c : Code) (A : Nat → Prop) (s0 : Nat), Fx p s m args meth c D cy mi → fr mi ≤ R.frames → lo mi ≤ R.locals → σ'.1 ≤ s.heap.size + R.cells → σ'.2.1 ≤ s0 + R.slots → (∀ q, s.heap.size ≤ q → A q) → KK p l e R s m args below meth c (MQ below (Qend D cy r σ' A) args s (σ'.1 - s.heap.size) (σ'.2.1 - s0) A) D cy A mi s0 pc lv st σ := by
  intro n
  induction n with
  | zero => intro mi pc lv st σ r σ' h; cases h
  | succ n ih =>
    intro mi pc lv st σ r σ' h p e R s m args below meth c A s0 F hfr hlo hRc hRs hA
    unfold prun at h
    split at h
    · cases h
    · rename_i q hq
      obtain ⟨hmi, hok⟩ := pins_ok hq
      split at h
      · rename_i h36
        have hok' : okCall mi pc q := by
          obtain ⟨op, nx, x, y, ts⟩ := q
          simp only at h36
          subst h36
          exact hok
        split at h
        · rename_i hc
          split at h
          · cases h
          · rename_i r1 σ1 h1
            have hm1 := prun_mono _ _ _ _ _ _ _ _ h1
            have hm2 := prun_mono _ _ _ _ _ _ _ _ h
            have hk : q.2.2.1.toNat < 203 := by
              cases n with
              | zero => cases h1
              | succ n =>
                unfold prun at h1
                split at h1
                · cases h1
                · rename_i q2 hq2
                  exact (pins_ok hq2).1
            have hfit : (lg_sl (st.take (np q.2.2.1.toNat)).reverse).length ≤ mL q.2.2.1.toNat := by
              unfold callOk at hc
              rw [Bool.and_eq_true, Bool.and_eq_true, Bool.and_eq_true, decide_eq_true_eq, decide_eq_true_eq, decide_eq_true_eq] at hc
              exact hc.2.2.1
            exact s_call F hok' hk hfr hlo (by omega) (by omega) hA hc (pMet_of hk hfit hm1 (ih _ _ _ _ _ _ _ h1)) hm1 (ih _ _ _ _ _ _ _ h p e R s m args below meth c A s0 F hfr hlo hRc hRs hA)
        · cases h
      · split at h
        · rename_i r1 hr
          cases h
          exact s_ret F hok hr
        · split at h
          · cases h
          · rename_i h1
            have hm2 := prun_mono _ _ _ _ _ _ _ _ h
            exact s_step F hok h1 hfr hlo (by omega) (by omega) hA (ih _ _ _ _ _ _ _ h p e R s m args below meth c A s0 F hfr hlo hRc hRs hA)
/-- a method's contract, by its pure run -/
theorem simMet {l : Launch} {D : va_G} {cy : Nat → ClassId} {n k : Nat} {as : List Value} {σ σ1 : ps} {r : Option Value} (hk : k < 203) (hfit : (lg_sl as).length ≤ mL k) (h : prun n k 0 (lv_args 0 as) [] σ = some (r, σ1)) : pMet l D cy k as σ r σ1 :=
  pMet_of hk hfit (prun_mono _ _ _ _ _ _ _ _ h) (simRun l D cy _ _ _ _ _ _ _ _ h)
