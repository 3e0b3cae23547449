theorem Rok.w {V V' : Nat → Nat → Value} (r : Rok V V') (q : QW V) (e : EA V) (ty : ∀ g, g < 8 → Ty1 V g) : QW V' ∧ EA V' := ⟨r.1 q, r.2.1 e (fun g hg => (ty g hg).2.1)⟩
/-- the law's loop: j calls are done -/
def LV10 (j x t : Nat) (A : Nat → Nat) (σ : ps) : Prop := (∃ T : Int64, sV σ x 9 = .long T ∧ gL (vw t A σ) 0 0 = T ∧ 0 ≤ T.toInt ∧ T.toInt ≤ 20000 * (j : Int)) ∧ QW (vw t A σ) ∧ EA (vw t A σ) ∧ rg w2 (vw t A σ) ≤ j
/-- who is on, and with which id, is the same in class and reference -/
def HC (bA x t : Nat) (A : Nat → Nat) (σ : ps) : Prop := ∃ (hr : Nat) (ha : Nat → Nat), HCls hr ha x σ ∧ (hr ∈ sL σ ∧ sK σ hr = 25 ∧ hr < bA) ∧ (∀ i, i < 8 → ha i ∈ sL σ ∧ sK σ (ha i) = 3 ∧ ha i < bA) ∧ ∀ i, i < 8 → cO σ ha i = gI (vw t A σ) 4 i ∧ (¬ (cO σ ha i).toInt = 0 → cI σ ha i = gI (vw t A σ) 5 i)
/-- a host more, or one less: what the class did, the reference still to follow -/
def HM (bA x t : Nat) (A : Nat → Nat) (σ : ps) (h : Nat) (on : Bool) (b : Int32) : Prop := ∃ (hr : Nat) (ha : Nat → Nat), HCls hr ha x σ ∧ (hr ∈ sL σ ∧ sK σ hr = 25 ∧ hr < bA) ∧ (∀ i, i < 8 → ha i ∈ sL σ ∧ sK σ (ha i) = 3 ∧ ha i < bA) ∧ (∀ i, i < 8 → ¬ i = h → cO σ ha i = gI (vw t A σ) 4 i ∧ (¬ (cO σ ha i).toInt = 0 → cI σ ha i = gI (vw t A σ) 5 i)) ∧ h < 8 ∧ (if on then cO σ ha h = 1 ∧ cI σ ha h = b else cO σ ha h = 0)
section HCS
variable {bA x t : Nat} {A : Nat → Nat} {σ σ' : ps}
theorem HCls.of {hr : Nat} {ha : Nat → Nat} (C : HCls hr ha x σ) (h1 : sV σ' x 0 = sV σ x 0) (h2 : ∀ i, sV σ' hr i = sV σ hr i) (h3 : ∀ i, i < 8 → sV σ' (ha i) 7 = sV σ (ha i) 7 ∧ sV σ' (ha i) 8 = sV σ (ha i) 8) : HCls hr ha x σ' := by
  obtain ⟨c1, c2, c3, c4⟩ := C
  refine ⟨h1.trans c1, fun i hi => (h2 i).trans (c2 i hi), c3, fun i hi => ?_⟩
  rw [(h3 i hi).1, (h3 i hi).2]
  exact c4 i hi
theorem HC.of (H : HC bA x t A σ) (h1 : sV σ' x 0 = sV σ x 0) (h2 : ∀ a ∈ sL σ, sK σ a = 25 → a < bA → ∀ i, sV σ' a i = sV σ a i) (h3 : ∀ a ∈ sL σ, sK σ a = 3 → a < bA → sV σ' a 7 = sV σ a 7 ∧ sV σ' a 8 = sV σ a 8) (h4 : ∀ a ∈ sL σ, a ∈ sL σ' ∧ sK σ' a = sK σ a) (h5 : Same45 (vw t A σ) (vw t A σ')) : HC bA x t A σ' := by
  obtain ⟨hr, ha, C, ⟨r1, r2, r3⟩, g, v⟩ := H
  have q : ∀ i, i < 8 → sV σ' (ha i) 7 = sV σ (ha i) 7 ∧ sV σ' (ha i) 8 = sV σ (ha i) 8 := fun i hi => h3 _ (g i hi).1 (g i hi).2.1 (g i hi).2.2
  refine ⟨hr, ha, C.of h1 (h2 hr r1 r2 r3) q, ⟨(h4 hr r1).1, (h4 hr r1).2.trans r2, r3⟩, fun i hi => ⟨(h4 _ (g i hi).1).1, (h4 _ (g i hi).1).2.trans (g i hi).2.1, (g i hi).2.2⟩, fun i hi => ?_⟩
  unfold cO cI
  rw [(q i hi).1, (q i hi).2, gI_of (h5 i).1, gI_of (h5 i).2]
  exact v i hi
theorem HM.of {h : Nat} {on : Bool} {b : Int32} (H : HM bA x t A σ h on b) (h1 : sV σ' x 0 = sV σ x 0) (h2 : ∀ a ∈ sL σ, sK σ a = 25 → a < bA → ∀ i, sV σ' a i = sV σ a i) (h3 : ∀ a ∈ sL σ, sK σ a = 3 → a < bA → sV σ' a 7 = sV σ a 7 ∧ sV σ' a 8 = sV σ a 8) (h4 : ∀ a ∈ sL σ, a ∈ sL σ' ∧ sK σ' a = sK σ a) (h5 : ∀ q, ¬ q = h → vw t A σ' 4 q = vw t A σ 4 q ∧ vw t A σ' 5 q = vw t A σ 5 q) (h6 : if on then gI (vw t A σ') 4 h = 1 ∧ gI (vw t A σ') 5 h = b else gI (vw t A σ') 4 h = 0) : HC bA x t A σ' := by
  obtain ⟨hr, ha, C, ⟨r1, r2, r3⟩, g, v, h8, u⟩ := H
  have q : ∀ i, i < 8 → sV σ' (ha i) 7 = sV σ (ha i) 7 ∧ sV σ' (ha i) 8 = sV σ (ha i) 8 := fun i hi => h3 _ (g i hi).1 (g i hi).2.1 (g i hi).2.2
  refine ⟨hr, ha, C.of h1 (h2 hr r1 r2 r3) q, ⟨(h4 hr r1).1, (h4 hr r1).2.trans r2, r3⟩, fun i hi => ⟨(h4 _ (g i hi).1).1, (h4 _ (g i hi).1).2.trans (g i hi).2.1, (g i hi).2.2⟩, fun i hi => ?_⟩
  have eo : cO σ' ha i = cO σ ha i := by unfold cO; rw [(q i hi).1]
  have ei : cI σ' ha i = cI σ ha i := by unfold cI; rw [(q i hi).2]
  rw [eo, ei]
  by_cases e : i = h
  · subst e
    cases on with
    | true =>
      have u : cO σ ha i = 1 ∧ cI σ ha i = b := u
      have h6 : gI (vw t A σ') 4 i = 1 ∧ gI (vw t A σ') 5 i = b := h6
      exact ⟨u.1.trans h6.1.symm, fun _ => u.2.trans h6.2.symm⟩
    | false =>
      have u : cO σ ha i = 0 := u
      have h6 : gI (vw t A σ') 4 i = 0 := h6
      exact ⟨u.trans h6.symm, fun z => absurd (by rw [u]; rfl) z⟩
  · rw [gI_of (h5 i e).1, gI_of (h5 i e).2]
    exact v i hi e
/-- what the class says of its hosts is what the reference says -/
theorem HC.f (H : HC bA x t A σ) : ∃ (hr : Nat) (ha : Nat → Nat), HCls hr ha x σ ∧ HKd ha σ ∧ (∀ h : Int32, offOK (cO σ ha) h ↔ offOK (gI (vw t A σ) 4) h) ∧ (∀ h i : Int32, onOK (cO σ ha) (cI σ ha) h i ↔ onOK (gI (vw t A σ) 4) (gI (vw t A σ) 5) h i) ∧ (hr ∈ sL σ ∧ sK σ hr = 25 ∧ hr < bA) ∧ (∀ i, i < 8 → ha i ∈ sL σ ∧ sK σ (ha i) = 3 ∧ ha i < bA) ∧ ∀ i, i < 8 → cO σ ha i = gI (vw t A σ) 4 i ∧ (¬ (cO σ ha i).toInt = 0 → cI σ ha i = gI (vw t A σ) 5 i) := by
  obtain ⟨hr, ha, C, r, g, v⟩ := H
  have cl : ∀ h : Int32, 0 ≤ h.toInt ∧ h.toInt ≤ 7 → h.toNatClampNeg < 8 := fun h h0 => by have : (h.toNatClampNeg : Int) = h.toInt := n_clamp h0.1; omega
  refine ⟨hr, ha, C, fun i hi => ⟨(g i hi).1, (g i hi).2.1⟩, fun h => ?_, fun h i => ?_, r, g, v⟩
  · constructor
    · intro a; exact ⟨a.1, by rw [← (v _ (cl h a.1)).1]; exact a.2⟩
    · intro a; exact ⟨a.1, by rw [(v _ (cl h a.1)).1]; exact a.2⟩
  · constructor
    · intro a
      refine ⟨a.1, a.2.1, by rw [← (v _ (cl h a.1)).1]; exact a.2.2.1, fun k hk b => a.2.2.2 k hk ⟨by rw [(v k hk).1]; exact b.1, ?_⟩⟩
      rw [(v k hk).2 (by rw [(v k hk).1]; exact b.1)]; exact b.2
    · intro a
      refine ⟨a.1, a.2.1, by rw [(v _ (cl h a.1)).1]; exact a.2.2.1, fun k hk b => a.2.2.2 k hk ⟨by rw [← (v k hk).1]; exact b.1, ?_⟩⟩
      rw [← (v k hk).2 b.1]; exact b.2
def hcQ (C : CT) : Bool := !(inM (cMod C) 12 0) && (!(inM (cMod C) 25 0) && (!(inM (cMod C) 3 7) && !(inM (cMod C) 3 8)))
theorem post_c {C : CT} {Z : Nat → Prop} {vs : List Value} {r : Option Value} (p : Post C Z σ vs r σ') : (∀ a ∈ sL σ, a ∈ sL σ' ∧ sK σ' a = sK σ a) ∧ ∀ a ∈ sL σ, ∀ j, inM (cMod C) (sK σ a) j = false → sV σ' a j = sV σ a j := by
  obtain ⟨Z', T', L', R, S, a⟩ := p
  exact ⟨fun a ha => ⟨(R.1 a ha).1, (R.1 a ha).2.1⟩, fun a ha j hj => (R.1 a ha).2.2 j hj⟩
theorem HC.cls {C : CT} {Z : Nat → Prop} {vs : List Value} {r : Option Value} (H : HC bA x t A σ) (hx : x ∈ sL σ) (kx : sK σ x = 12) (p : Post C Z σ vs r σ') (hq : hcQ C = true) (e : vw t A σ' = vw t A σ) : HC bA x t A σ' := by
  unfold hcQ at hq
  simp only [Bool.and_eq_true, Bool.not_eq_true'] at hq
  obtain ⟨q1, q2, q3, q4⟩ := hq
  obtain ⟨p1, p2⟩ := post_c p
  exact H.of (p2 x hx 0 (by rw [kx]; exact q1)) (fun a ha hk _ i => p2 a ha i (by rw [hk, inM_row (j' := 0) (by decide)]; exact q2)) (fun a ha hk _ => ⟨p2 a ha 7 (by rw [hk]; exact q3), p2 a ha 8 (by rw [hk]; exact q4)⟩) p1 (fun q => by rw [e]; exact ⟨rfl, rfl⟩)
theorem post_r {C : CT} {Z : Nat → Prop} {vs : List Value} {r : Option Value} (hq : refQ C = true) (p : Post C Z σ vs r σ') : (∀ a ∈ sL σ, a ∈ sL σ' ∧ sK σ' a = sK σ a) ∧ ∀ a ∈ sL σ, ¬ sK σ a = 13 → sK σ a < 40 → ∀ j, sV σ' a j = sV σ a j := by
  obtain ⟨p1, p2⟩ := post_c p
  unfold refQ at hq
  simp only [Bool.and_eq_true] at hq
  refine ⟨p1, fun a ha h1 h2 j => p2 a ha j (inM_f (List.all_eq_true.mpr fun q hq' => ?_))⟩
  have := List.all_eq_true.mp hq.1 q hq'
  simp only [Bool.and_eq_true, beq_iff_eq, Bool.or_eq_true, decide_eq_true_eq] at this
  rw [Bool.not_eq_true', beq_eq_false_iff_ne]
  omega
end HCS
def LVH (j x t bA : Nat) (A : Nat → Nat) (σ : ps) : Prop := LV10 j x t A σ ∧ HC bA x t A σ
/-- between class and reference -/
def LM (b0 j x t qo qa bA : Nat) (A : Nat → Nat) (σ : ps) (Q : Prop) : Prop := ∃ Z, Tq b0 j x t qo qa bA A Z σ ∧ Q
def LI (b0 j x t qo qa bA : Nat) (A : Nat → Nat) (σ : ps) : Prop := ∃ Z, Tq b0 j x t qo qa bA A Z σ ∧ LVH j x t bA A σ
section
variable {b0 j x t qo qa bA : Nat} {A : Nat → Nat} {σ : ps}
theorem alt_i {Z : Nat → Prop} {σ : ps} {vs : List Value} {r : Option Value} {C : CT} {e : List AV} {lo hi : Int} {a b : Nat} (hC : cAlt C = [(e, [(0, lo, hi, a, b)], [])]) (h : ∃ alt ∈ cAlt C, altOK Z σ vs r alt) : ∃ w : Int32, r = some (.int w) := by
  obtain ⟨alt, h1, h2⟩ := h
  rw [hC, List.mem_singleton] at h1
  subst h1
  rcases h2.2.2.1 with ⟨q, _⟩ | ⟨t2, v, q, er, ov⟩
  · cases q
  · cases q
    obtain ⟨y, ey, _⟩ := ov.i rfl
    exact ⟨y, by rw [er, ey]⟩
theorem alt_v {Z : Nat → Prop} {σ : ps} {vs : List Value} {r : Option Value} {C : CT} {e : List AV} (hC : cAlt C = [(e, [], [])]) (h : ∃ alt ∈ cAlt C, altOK Z σ vs r alt) : r = none := by
  obtain ⟨alt, h1, h2⟩ := h
  rw [hC, List.mem_singleton] at h1
  subst h1
  rcases h2.2.2.1 with ⟨_, q⟩ | ⟨t2, v, q, _⟩
  · exact q
  · cases q
theorem okx {Z : Nat → Prop} {L : List Nat} {K : Nat → Nat} {a k : Nat} (h1 : Z a) (h2 : K a = k) : okA Z L K (2, ((k : Nat) : Int), 0, 0, 0) (.ref a) := Or.inr (Or.inr (Or.inl ⟨rfl, a, rfl, h1, by rw [h2]; show k = ((k : Nat) : Int).toNat; omega⟩))
/-- behind a class's call that leaves the time -/
theorem LI.cls0 {C : CT} {vs : List Value} {r : Option Value} {σ' : ps} {Z : Nat → Prop} (T : Tq b0 j x t qo qa bA A Z σ) (v : LV10 j x t A σ) (hq : clsQ C = true) (h9 : inM (cMod C) 12 9 = false) (p : Post C Z σ vs r σ') : ∃ Z', Tq b0 j x t qo qa bA A Z' σ' ∧ LV10 j x t A σ' ∧ vw t A σ' = vw t A σ ∧ ∃ alt ∈ cAlt C, altOK Z' σ' vs r alt := by
  obtain ⟨Z', T', e, f, _, a⟩ := ts_cls T hq p
  obtain ⟨⟨tm, c1, c2⟩, c3⟩ := v
  exact ⟨Z', T', ⟨⟨tm, by rw [f 9 h9]; exact c1, by rw [e]; exact c2⟩, by rw [e]; exact c3⟩, e, a⟩
theorem LI.cls {C : CT} {vs : List Value} {r : Option Value} {σ' : ps} {Z : Nat → Prop} (T : Tq b0 j x t qo qa bA A Z σ) (v : LVH j x t bA A σ) (hq : clsQ C = true) (h9 : inM (cMod C) 12 9 = false) (hh : hcQ C = true) (p : Post C Z σ vs r σ') : LI b0 j x t qo qa bA A σ' ∧ ∃ Z', ∃ alt ∈ cAlt C, altOK Z' σ' vs r alt := by
  obtain ⟨Z', T', v', e, a⟩ := LI.cls0 T v.1 hq h9 p
  exact ⟨⟨Z', T', v', v.2.cls T.xm T.2.1.2 p hh e⟩, Z', a⟩
/-- behind a reference's call that leaves the time -/
theorem LI.ref0 {σ' : ps} {Z Z' : Nat → Prop} (T : Tq b0 j x t qo qa bA A Z σ) (v : LV10 j x t A σ) (T' : Tq b0 j x t qo qa bA A Z' σ') (ex : sV σ' x = sV σ x) (r : Rok (vw t A σ) (vw t A σ')) (hc : HC bA x t A σ') : LI b0 (j + 1) x t qo qa bA A σ' := by
  obtain ⟨⟨tm, c1, c2, c3, c4⟩, c5, c6, c7⟩ := v
  obtain ⟨q', e'⟩ := r.w c5 c6 T.1.ty1
  obtain ⟨a1, a2, a3, a4, a5⟩ := T'
  refine ⟨Z', ⟨a1, a2, a3, a4.up (by omega), a5⟩, ⟨⟨tm, by rw [ex]; exact c1, by rw [gL_of r.2.2.1]; exact c2, c3, by omega⟩, q', e', ?_⟩, hc⟩
  have := r.2.2.2
  omega
theorem HC.ref {C : CT} {Z : Nat → Prop} {vs : List Value} {r : Option Value} {σ' : ps} (H : HC bA x t A σ) (ex : sV σ' x = sV σ x) (hq : refQ C = true) (p : Post C Z σ vs r σ') (s : Same45 (vw t A σ) (vw t A σ')) : HC bA x t A σ' := by
  obtain ⟨p1, p2⟩ := post_r hq p
  exact H.of (by rw [ex]) (fun a ha hk _ => p2 a ha (by rw [hk]; decide) (by rw [hk]; decide)) (fun a ha hk _ => ⟨p2 a ha (by rw [hk]; decide) (by rw [hk]; decide) 7, p2 a ha (by rw [hk]; decide) (by rw [hk]; decide) 8⟩) p1 s
theorem LI.ref {C : CT} {vs : List Value} {rr : Option Value} {σ' : ps} {Z Z' : Nat → Prop} (T : Tq b0 j x t qo qa bA A Z σ) (v : LVH j x t bA A σ) (T' : Tq b0 j x t qo qa bA A Z' σ') (ex : sV σ' x = sV σ x) (r : Rok (vw t A σ) (vw t A σ')) (hq : refQ C = true) (p : Post C Z σ vs rr σ') (s : Same45 (vw t A σ) (vw t A σ')) : LI b0 (j + 1) x t qo qa bA A σ' := LI.ref0 T v.1 T' ex r (v.2.ref ex hq p s)
theorem LV10.m (v : LV10 j x t A σ) {Z : Nat → Prop} (W : WT Z t A σ) (hj : j ≤ 600) : (0 ≤ (gI (vw t A σ) 47 0).toInt ∧ (gI (vw t A σ) 47 0).toInt ≤ 1000) ∧ (gI (vw t A σ) 47 0).toInt < 800 := by
  have := rg_many (vw t A σ)
  have h := v.2.2.2
  have m := W.many
  omega
theorem ch47 {Z : Nat → Prop} (W : WT Z t A σ) {vs : List Value} {i : Nat} (h0 : vs.getD 0 .null = .ref t) (hi : vs.getD i .null = .int (gI (vw t A σ) 47 0)) : chOK (fun i => vs.getD i .null) σ (0, 0, 47, i) := by
  have e47 : sV σ t 47 = .int (gI (vw t A σ) 47 0) := by
    rw [← (W.fi (j := 47) (i := 0) (by decide)).1]
    unfold vw
    rw [show isRw 47 = false from rfl, if_neg (by decide)]
  exact Or.inr ⟨t, h0, Or.inl ⟨rfl, by rw [show sV σ t (47 : Int).toNat = sV σ t 47 from rfl, e47]; exact hi.symm⟩⟩
theorem cs_feed {a b c d e : Int32} (L : LI b0 j x t qo qa bA A σ) : wp 87 0 (lv_args 0 [.ref x, .int a, .int b, .int c, .int d, .int e]) [] σ (fun r σ' => (∃ w : Int32, r = some (.int w)) ∧ LI b0 j x t qo qa bA A σ') := by
  obtain ⟨Z, T, v⟩ := L
  obtain ⟨n, r, σ', run, post⟩ := tV89 Z σ [.ref x, .int a, .int b, .int c, .int d, .int e] T.1.1 T.1.2.1 (ent_gen ⟨okx T.2.1.1 T.2.1.2, okA.any a, okA.any b, okA.any c, okA.any d, okA.any e, trivial⟩ (fun c hc => by cases hc) (by decide)) (fun h => absurd rfl h)
  obtain ⟨L', Z', a⟩ := LI.cls T v (by decide +kernel) (by decide +kernel) (by decide +kernel) post
  exact ⟨n, r, σ', run, alt_i (C := tC89) rfl a, L'⟩
theorem cs_end {a : Int32} (L : LI b0 j x t qo qa bA A σ) : wp 88 0 (lv_args 0 [.ref x, .int a]) [] σ (fun r σ' => (∃ w : Int32, r = some (.int w)) ∧ LI b0 j x t qo qa bA A σ') := by
  obtain ⟨Z, T, v⟩ := L
  obtain ⟨n, r, σ', run, post⟩ := tV90 Z σ [.ref x, .int a] T.1.1 T.1.2.1 (ent_gen ⟨okx T.2.1.1 T.2.1.2, okA.any a, trivial⟩ (fun c hc => by cases hc) (by decide)) (fun h => absurd rfl h)
  obtain ⟨L', Z', a⟩ := LI.cls T v (by decide +kernel) (by decide +kernel) (by decide +kernel) post
  exact ⟨n, r, σ', run, alt_i (C := tC90) rfl a, L'⟩
theorem cs_claim {a : Int32} (L : LI b0 j x t qo qa bA A σ) : wp 93 0 (lv_args 0 [.ref x, .int a]) [] σ (fun r σ' => (∃ w : Int32, r = some (.int w)) ∧ LI b0 j x t qo qa bA A σ') := by
  obtain ⟨Z, T, v⟩ := L
  obtain ⟨n, r, σ', run, post⟩ := tV106 Z σ [.ref x, .int a] T.1.1 T.1.2.1 (ent_gen ⟨okx T.2.1.1 T.2.1.2, okA.any a, trivial⟩ (fun c hc => by cases hc) (by decide)) (fun h => absurd rfl h)
  obtain ⟨L', Z', a⟩ := LI.cls T v (by decide +kernel) (by decide +kernel) (by decide +kernel) post
  exact ⟨n, r, σ', run, alt_i (C := tC106) rfl a, L'⟩
theorem cs_service {a b : Int32} (L : LI b0 j x t qo qa bA A σ) : wp 94 0 (lv_args 0 [.ref x, .int a, .int b]) [] σ (fun r σ' => (∃ w : Int32, r = some (.int w)) ∧ LI b0 j x t qo qa bA A σ') := by
  obtain ⟨Z, T, v⟩ := L
  obtain ⟨n, r, σ', run, post⟩ := tV107 Z σ [.ref x, .int a, .int b] T.1.1 T.1.2.1 (ent_gen ⟨okx T.2.1.1 T.2.1.2, okA.any a, okA.any b, trivial⟩ (fun c hc => by cases hc) (by decide)) (fun h => absurd rfl h)
  obtain ⟨L', Z', a⟩ := LI.cls T v (by decide +kernel) (by decide +kernel) (by decide +kernel) post
  exact ⟨n, r, σ', run, alt_i (C := tC107) rfl a, L'⟩
theorem cs_ask {a b : Int32} (L : LI b0 j x t qo qa bA A σ) : wp 95 0 (lv_args 0 [.ref x, .int a, .int b]) [] σ (fun r σ' => (∃ w : Int32, r = some (.int w)) ∧ LI b0 j x t qo qa bA A σ') := by
  obtain ⟨Z, T, v⟩ := L
  obtain ⟨n, r, σ', run, post⟩ := tV108 Z σ [.ref x, .int a, .int b] T.1.1 T.1.2.1 (ent_gen ⟨okx T.2.1.1 T.2.1.2, okA.any a, okA.any b, trivial⟩ (fun c hc => by cases hc) (by decide)) (fun h => absurd rfl h)
  obtain ⟨L', Z', a⟩ := LI.cls T v (by decide +kernel) (by decide +kernel) (by decide +kernel) post
  exact ⟨n, r, σ', run, alt_i (C := tC108) rfl a, L'⟩
theorem cs_close {a b : Int32} (L : LI b0 j x t qo qa bA A σ) : wp 96 0 (lv_args 0 [.ref x, .int a, .int b]) [] σ (fun r σ' => (∃ w : Int32, r = some (.int w)) ∧ LI b0 j x t qo qa bA A σ') := by
  obtain ⟨Z, T, v⟩ := L
  obtain ⟨n, r, σ', run, post⟩ := tV109 Z σ [.ref x, .int a, .int b] T.1.1 T.1.2.1 (ent_gen ⟨okx T.2.1.1 T.2.1.2, okA.any a, okA.any b, trivial⟩ (fun c hc => by cases hc) (by decide)) (fun h => absurd rfl h)
  obtain ⟨L', Z', a⟩ := LI.cls T v (by decide +kernel) (by decide +kernel) (by decide +kernel) post
  exact ⟨n, r, σ', run, alt_i (C := tC109) rfl a, L'⟩
theorem cs_split {a : Int32} (L : LI b0 j x t qo qa bA A σ) : wp 102 0 (lv_args 0 [.ref x, .int a]) [] σ (fun r σ' => (r = none) ∧ LI b0 j x t qo qa bA A σ') := by
  obtain ⟨Z, T, v⟩ := L
  obtain ⟨n, r, σ', run, post⟩ := tV128 Z σ [.ref x, .int a] T.1.1 T.1.2.1 (ent_gen ⟨okx T.2.1.1 T.2.1.2, okA.any a, trivial⟩ (fun c hc => by cases hc) (by decide)) (fun h => absurd rfl h)
  obtain ⟨L', Z', a⟩ := LI.cls T v (by decide +kernel) (by decide +kernel) (by decide +kernel) post
  exact ⟨n, r, σ', run, alt_v (C := tC128) rfl a, L'⟩
theorem cs_join (L : LI b0 j x t qo qa bA A σ) : wp 103 0 (lv_args 0 [.ref x]) [] σ (fun r σ' => (r = none) ∧ LI b0 j x t qo qa bA A σ') := by
  obtain ⟨Z, T, v⟩ := L
  obtain ⟨n, r, σ', run, post⟩ := tV129 Z σ [.ref x] T.1.1 T.1.2.1 (ent_gen ⟨okx T.2.1.1 T.2.1.2, trivial⟩ (fun c hc => by cases hc) (by decide)) (fun h => absurd rfl h)
  obtain ⟨L', Z', a⟩ := LI.cls T v (by decide +kernel) (by decide +kernel) (by decide +kernel) post
  exact ⟨n, r, σ', run, alt_v (C := tC129) rfl a, L'⟩
theorem cs_give {a : Int32} (L : LI b0 j x t qo qa bA A σ) : wp 98 0 (lv_args 0 [.ref x, .int a]) [] σ (fun r σ' => (∃ w : Int32, r = some (.int w)) ∧ LI b0 j x t qo qa bA A σ') := by
  obtain ⟨Z, T, v⟩ := L
  obtain ⟨n, r, σ', run, post⟩ := tV120 Z σ [.ref x, .int a] T.1.1 T.1.2.1 (ent_gen ⟨okx T.2.1.1 T.2.1.2, okA.any a, trivial⟩ (fun c hc => by cases hc) (by decide)) (fun h => absurd rfl h)
  obtain ⟨L', Z', a⟩ := LI.cls T v (by decide +kernel) (by decide +kernel) (by decide +kernel) post
  exact ⟨n, r, σ', run, alt_i (C := tC120) rfl a, L'⟩
theorem cs_sign {a b : Int32} (L : LI b0 j x t qo qa bA A σ) : wp 128 0 (lv_args 0 [.ref x, .int a, .int b]) [] σ (fun r σ' => (∃ w : Int32, r = some (.int w)) ∧ LI b0 j x t qo qa bA A σ') := by
  obtain ⟨Z, T, v⟩ := L
  obtain ⟨n, r, σ', run, post⟩ := tV130 Z σ [.ref x, .int a, .int b] T.1.1 T.1.2.1 (ent_gen ⟨okx T.2.1.1 T.2.1.2, okA.any a, okA.any b, trivial⟩ (fun c hc => by cases hc) (by decide)) (fun h => absurd rfl h)
  obtain ⟨L', Z', a⟩ := LI.cls T v (by decide +kernel) (by decide +kernel) (by decide +kernel) post
  exact ⟨n, r, σ', run, alt_i (C := tC130) rfl a, L'⟩
theorem cs_answers {a b : Int32} (L : LI b0 j x t qo qa bA A σ) : wp 129 0 (lv_args 0 [.ref x, .int a, .int b]) [] σ (fun r σ' => (∃ w : Int32, r = some (.int w)) ∧ LI b0 j x t qo qa bA A σ') := by
  obtain ⟨Z, T, v⟩ := L
  obtain ⟨n, r, σ', run, post⟩ := tV131 Z σ [.ref x, .int a, .int b] T.1.1 T.1.2.1 (ent_gen ⟨okx T.2.1.1 T.2.1.2, okA.any a, okA.any b, trivial⟩ (fun c hc => by cases hc) (by decide)) (fun h => absurd rfl h)
  obtain ⟨L', Z', a⟩ := LI.cls T v (by decide +kernel) (by decide +kernel) (by decide +kernel) post
  exact ⟨n, r, σ', run, alt_i (C := tC131) rfl a, L'⟩
theorem cs_found {a b c d : Int32} (L : LI b0 j x t qo qa bA A σ) : wp 130 0 (lv_args 0 [.ref x, .int a, .int b, .int c, .int d]) [] σ (fun r σ' => (∃ w : Int32, r = some (.int w)) ∧ LI b0 j x t qo qa bA A σ') := by
  obtain ⟨Z, T, v⟩ := L
  obtain ⟨n, r, σ', run, post⟩ := tV132 Z σ [.ref x, .int a, .int b, .int c, .int d] T.1.1 T.1.2.1 (ent_gen ⟨okx T.2.1.1 T.2.1.2, okA.any a, okA.any b, okA.any c, okA.any d, trivial⟩ (fun c hc => by cases hc) (by decide)) (fun h => absurd rfl h)
  obtain ⟨L', Z', a⟩ := LI.cls T v (by decide +kernel) (by decide +kernel) (by decide +kernel) post
  exact ⟨n, r, σ', run, alt_i (C := tC132) rfl a, L'⟩
theorem cs_entry {a b c : Int32} (L : LI b0 j x t qo qa bA A σ) : wp 131 0 (lv_args 0 [.ref x, .int a, .int b, .int c]) [] σ (fun r σ' => (∃ w : Int32, r = some (.int w)) ∧ LI b0 j x t qo qa bA A σ') := by
  obtain ⟨Z, T, v⟩ := L
  obtain ⟨n, r, σ', run, post⟩ := tV133 Z σ [.ref x, .int a, .int b, .int c] T.1.1 T.1.2.1 (ent_gen ⟨okx T.2.1.1 T.2.1.2, okA.any a, okA.any b, okA.any c, trivial⟩ (fun c hc => by cases hc) (by decide)) (fun h => absurd rfl h)
  obtain ⟨L', Z', a⟩ := LI.cls T v (by decide +kernel) (by decide +kernel) (by decide +kernel) post
  exact ⟨n, r, σ', run, alt_i (C := tC133) rfl a, L'⟩
theorem cs_count {a : Int32} (L : LI b0 j x t qo qa bA A σ) : wp 132 0 (lv_args 0 [.ref x, .int a]) [] σ (fun r σ' => (∃ w : Int32, r = some (.int w)) ∧ LI b0 j x t qo qa bA A σ') := by
  obtain ⟨Z, T, v⟩ := L
  obtain ⟨n, r, σ', run, post⟩ := tV134 Z σ [.ref x, .int a] T.1.1 T.1.2.1 (ent_gen ⟨okx T.2.1.1 T.2.1.2, okA.any a, trivial⟩ (fun c hc => by cases hc) (by decide)) (fun h => absurd rfl h)
  obtain ⟨L', Z', a⟩ := LI.cls T v (by decide +kernel) (by decide +kernel) (by decide +kernel) post
  exact ⟨n, r, σ', run, alt_i (C := tC134) rfl a, L'⟩
theorem cs_holders {a : Int32} (L : LI b0 j x t qo qa bA A σ) : wp 133 0 (lv_args 0 [.ref x, .int a]) [] σ (fun r σ' => (∃ w : Int32, r = some (.int w)) ∧ LI b0 j x t qo qa bA A σ') := by
  obtain ⟨Z, T, v⟩ := L
  obtain ⟨n, r, σ', run, post⟩ := tV135 Z σ [.ref x, .int a] T.1.1 T.1.2.1 (ent_gen ⟨okx T.2.1.1 T.2.1.2, okA.any a, trivial⟩ (fun c hc => by cases hc) (by decide)) (fun h => absurd rfl h)
  obtain ⟨L', Z', a⟩ := LI.cls T v (by decide +kernel) (by decide +kernel) (by decide +kernel) post
  exact ⟨n, r, σ', run, alt_i (C := tC135) rfl a, L'⟩
theorem cs_sent {a : Int32} (L : LI b0 j x t qo qa bA A σ) : wp 134 0 (lv_args 0 [.ref x, .int a]) [] σ (fun r σ' => (∃ w : Int32, r = some (.int w)) ∧ LI b0 j x t qo qa bA A σ') := by
  obtain ⟨Z, T, v⟩ := L
  obtain ⟨n, r, σ', run, post⟩ := tV136 Z σ [.ref x, .int a] T.1.1 T.1.2.1 (ent_gen ⟨okx T.2.1.1 T.2.1.2, okA.any a, trivial⟩ (fun c hc => by cases hc) (by decide)) (fun h => absurd rfl h)
  obtain ⟨L', Z', a⟩ := LI.cls T v (by decide +kernel) (by decide +kernel) (by decide +kernel) post
  exact ⟨n, r, σ', run, alt_i (C := tC136) rfl a, L'⟩
theorem rs_feed {a b c d e : Int32} (L : LI b0 j x t qo qa bA A σ) : wp 136 0 (lv_args 0 [.ref t, .int a, .int b, .int c, .int d, .int e]) [] σ (fun r σ' => (∃ w : Int32, r = some (.int w)) ∧ LI b0 (j + 1) x t qo qa bA A σ') := by
  obtain ⟨Z, T, v⟩ := L
  obtain ⟨n, r, σ', run, post⟩ := tV203 Z σ [.ref t, .int a, .int b, .int c, .int d, .int e] T.1.1 T.1.2.1 (ent_gen ⟨okx T.1.2.2.1 T.1.2.2.2.1, okA.any a, okA.any b, okA.any c, okA.any d, okA.any e, trivial⟩ (fun c hc => by cases hc) (by decide)) (fun h => absurd rfl h)
  obtain ⟨Z', T', f1, f2, ex, _, a⟩ := ts_ref T (by decide +kernel) post
  refine ⟨n, r, σ', run, alt_i (C := tC203) rfl a, LI.ref T v T' ex (Rok.fr (fun k i hk => ?_) (Zr.of fun q => f1 26 q (by decide) (by decide +kernel)) (Zr.of fun q => f1 32 q (by decide) (by decide +kernel))) (by decide +kernel) post (fun q => ⟨f1 4 q (by decide) (by decide +kernel), f1 5 q (by decide) (by decide +kernel)⟩)⟩
  rcases hk with e | e | e | e | e | e <;> subst e
  · exact f2 0 i (by decide) (by decide +kernel)
  · exact f1 28 i (by decide) (by decide +kernel)
  · exact f1 39 i (by decide) (by decide +kernel)
  · exact f1 42 i (by decide) (by decide +kernel)
  · exact f2 46 i (by decide) (by decide +kernel)
  · exact f2 47 i (by decide) (by decide +kernel)
theorem rs_end {a : Int32} (L : LI b0 j x t qo qa bA A σ) : wp 137 0 (lv_args 0 [.ref t, .int a]) [] σ (fun r σ' => (∃ w : Int32, r = some (.int w)) ∧ LI b0 (j + 1) x t qo qa bA A σ') := by
  obtain ⟨Z, T, v⟩ := L
  obtain ⟨n, r, σ', run, post⟩ := tV202 Z σ [.ref t, .int a] T.1.1 T.1.2.1 (ent_gen ⟨okx T.1.2.2.1 T.1.2.2.2.1, okA.any a, trivial⟩ (fun c hc => by cases hc) (by decide)) (fun h => absurd rfl h)
  obtain ⟨Z', T', f1, f2, ex, _, a⟩ := ts_ref T (by decide +kernel) post
  refine ⟨n, r, σ', run, alt_i (C := tC202) rfl a, LI.ref T v T' ex (Rok.fr (fun k i hk => ?_) (Zr.of fun q => f1 26 q (by decide) (by decide +kernel)) (Zr.of fun q => f1 32 q (by decide) (by decide +kernel))) (by decide +kernel) post (fun q => ⟨f1 4 q (by decide) (by decide +kernel), f1 5 q (by decide) (by decide +kernel)⟩)⟩
  rcases hk with e | e | e | e | e | e <;> subst e
  · exact f2 0 i (by decide) (by decide +kernel)
  · exact f1 28 i (by decide) (by decide +kernel)
  · exact f1 39 i (by decide) (by decide +kernel)
  · exact f1 42 i (by decide) (by decide +kernel)
  · exact f2 46 i (by decide) (by decide +kernel)
  · exact f2 47 i (by decide) (by decide +kernel)
theorem rs_claim {a : Int32} (L : LI b0 j x t qo qa bA A σ) : wp 183 0 (lv_args 0 [.ref t, .int a]) [] σ (fun r σ' => (∃ w : Int32, r = some (.int w)) ∧ LI b0 (j + 1) x t qo qa bA A σ') := by
  obtain ⟨Z, T, v⟩ := L
  obtain ⟨n, r, σ', run, post⟩ := tV279 Z σ [.ref t, .int a] T.1.1 T.1.2.1 (ent_gen ⟨okx T.1.2.2.1 T.1.2.2.2.1, okA.any a, trivial⟩ (fun c hc => by cases hc) (by decide)) (fun h => absurd rfl h)
  obtain ⟨Z', T', f1, f2, ex, _, a⟩ := ts_ref T (by decide +kernel) post
  refine ⟨n, r, σ', run, alt_i (C := tC279) rfl a, LI.ref T v T' ex (Rok.fr (fun k i hk => ?_) (Zr.of fun q => f1 26 q (by decide) (by decide +kernel)) (Zr.of fun q => f1 32 q (by decide) (by decide +kernel))) (by decide +kernel) post (fun q => ⟨f1 4 q (by decide) (by decide +kernel), f1 5 q (by decide) (by decide +kernel)⟩)⟩
  rcases hk with e | e | e | e | e | e <;> subst e
  · exact f2 0 i (by decide) (by decide +kernel)
  · exact f1 28 i (by decide) (by decide +kernel)
  · exact f1 39 i (by decide) (by decide +kernel)
  · exact f1 42 i (by decide) (by decide +kernel)
  · exact f2 46 i (by decide) (by decide +kernel)
  · exact f2 47 i (by decide) (by decide +kernel)
theorem rs_service {a b : Int32} (L : LI b0 j x t qo qa bA A σ) : wp 184 0 (lv_args 0 [.ref t, .int a, .int b]) [] σ (fun r σ' => (∃ w : Int32, r = some (.int w)) ∧ LI b0 (j + 1) x t qo qa bA A σ') := by
  obtain ⟨Z, T, v⟩ := L
  obtain ⟨n, r, σ', run, post⟩ := tV280 Z σ [.ref t, .int a, .int b] T.1.1 T.1.2.1 (ent_gen ⟨okx T.1.2.2.1 T.1.2.2.2.1, okA.any a, okA.any b, trivial⟩ (fun c hc => by cases hc) (by decide)) (fun h => absurd rfl h)
  obtain ⟨Z', T', f1, f2, ex, _, a⟩ := ts_ref T (by decide +kernel) post
  refine ⟨n, r, σ', run, alt_i (C := tC280) rfl a, LI.ref T v T' ex (Rok.fr (fun k i hk => ?_) (Zr.of fun q => f1 26 q (by decide) (by decide +kernel)) (Zr.of fun q => f1 32 q (by decide) (by decide +kernel))) (by decide +kernel) post (fun q => ⟨f1 4 q (by decide) (by decide +kernel), f1 5 q (by decide) (by decide +kernel)⟩)⟩
  rcases hk with e | e | e | e | e | e <;> subst e
  · exact f2 0 i (by decide) (by decide +kernel)
  · exact f1 28 i (by decide) (by decide +kernel)
  · exact f1 39 i (by decide) (by decide +kernel)
  · exact f1 42 i (by decide) (by decide +kernel)
  · exact f2 46 i (by decide) (by decide +kernel)
  · exact f2 47 i (by decide) (by decide +kernel)
theorem rs_split {a : Int32} (L : LI b0 j x t qo qa bA A σ) : wp 188 0 (lv_args 0 [.ref t, .int a]) [] σ (fun r σ' => (r = none) ∧ LI b0 (j + 1) x t qo qa bA A σ') := by
  obtain ⟨Z, T, v⟩ := L
  obtain ⟨n, r, σ', run, post⟩ := tV284 Z σ [.ref t, .int a] T.1.1 T.1.2.1 (ent_gen ⟨okx T.1.2.2.1 T.1.2.2.2.1, okA.any a, trivial⟩ (fun c hc => by cases hc) (by decide)) (fun h => absurd rfl h)
  obtain ⟨Z', T', f1, f2, ex, _, a⟩ := ts_ref T (by decide +kernel) post
  refine ⟨n, r, σ', run, alt_v (C := tC284) rfl a, LI.ref T v T' ex (Rok.fr (fun k i hk => ?_) (Zr.of fun q => f1 26 q (by decide) (by decide +kernel)) (Zr.of fun q => f1 32 q (by decide) (by decide +kernel))) (by decide +kernel) post (fun q => ⟨f1 4 q (by decide) (by decide +kernel), f1 5 q (by decide) (by decide +kernel)⟩)⟩
  rcases hk with e | e | e | e | e | e <;> subst e
  · exact f2 0 i (by decide) (by decide +kernel)
  · exact f1 28 i (by decide) (by decide +kernel)
  · exact f1 39 i (by decide) (by decide +kernel)
  · exact f1 42 i (by decide) (by decide +kernel)
  · exact f2 46 i (by decide) (by decide +kernel)
  · exact f2 47 i (by decide) (by decide +kernel)
theorem rs_join (L : LI b0 j x t qo qa bA A σ) : wp 189 0 (lv_args 0 [.ref t]) [] σ (fun r σ' => (r = none) ∧ LI b0 (j + 1) x t qo qa bA A σ') := by
  obtain ⟨Z, T, v⟩ := L
  obtain ⟨n, r, σ', run, post⟩ := tV285 Z σ [.ref t] T.1.1 T.1.2.1 (ent_gen ⟨okx T.1.2.2.1 T.1.2.2.2.1, trivial⟩ (fun c hc => by cases hc) (by decide)) (fun h => absurd rfl h)
  obtain ⟨Z', T', f1, f2, ex, _, a⟩ := ts_ref T (by decide +kernel) post
  refine ⟨n, r, σ', run, alt_v (C := tC285) rfl a, LI.ref T v T' ex (Rok.fr (fun k i hk => ?_) (Zr.of fun q => f1 26 q (by decide) (by decide +kernel)) (Zr.of fun q => f1 32 q (by decide) (by decide +kernel))) (by decide +kernel) post (fun q => ⟨f1 4 q (by decide) (by decide +kernel), f1 5 q (by decide) (by decide +kernel)⟩)⟩
  rcases hk with e | e | e | e | e | e <;> subst e
  · exact f2 0 i (by decide) (by decide +kernel)
  · exact f1 28 i (by decide) (by decide +kernel)
  · exact f1 39 i (by decide) (by decide +kernel)
  · exact f1 42 i (by decide) (by decide +kernel)
  · exact f2 46 i (by decide) (by decide +kernel)
  · exact f2 47 i (by decide) (by decide +kernel)
theorem rs_look {a b : Int32} (L : LI b0 j x t qo qa bA A σ) : wp 193 0 (lv_args 0 [.ref t, .int a, .int b]) [] σ (fun r σ' => (∃ w : Int32, r = some (.int w)) ∧ LI b0 (j + 1) x t qo qa bA A σ') := by
  obtain ⟨Z, T, v⟩ := L
  obtain ⟨n, r, σ', run, post⟩ := tV288 Z σ [.ref t, .int a, .int b] T.1.1 T.1.2.1 (ent_gen ⟨okx T.1.2.2.1 T.1.2.2.2.1, okA.any a, okA.any b, trivial⟩ (fun c hc => by cases hc) (by decide)) (fun h => absurd rfl h)
  obtain ⟨Z', T', f1, f2, ex, _, a⟩ := ts_ref T (by decide +kernel) post
  refine ⟨n, r, σ', run, alt_i (C := tC288) rfl a, LI.ref T v T' ex (Rok.fr (fun k i hk => ?_) (Zr.of fun q => f1 26 q (by decide) (by decide +kernel)) (Zr.of fun q => f1 32 q (by decide) (by decide +kernel))) (by decide +kernel) post (fun q => ⟨f1 4 q (by decide) (by decide +kernel), f1 5 q (by decide) (by decide +kernel)⟩)⟩
  rcases hk with e | e | e | e | e | e <;> subst e
  · exact f2 0 i (by decide) (by decide +kernel)
  · exact f1 28 i (by decide) (by decide +kernel)
  · exact f1 39 i (by decide) (by decide +kernel)
  · exact f1 42 i (by decide) (by decide +kernel)
  · exact f2 46 i (by decide) (by decide +kernel)
  · exact f2 47 i (by decide) (by decide +kernel)
theorem rs_sign {a b : Int32} (L : LI b0 j x t qo qa bA A σ) : wp 194 0 (lv_args 0 [.ref t, .int a, .int b]) [] σ (fun r σ' => (∃ w : Int32, r = some (.int w)) ∧ LI b0 (j + 1) x t qo qa bA A σ') := by
  obtain ⟨Z, T, v⟩ := L
  obtain ⟨n, r, σ', run, post⟩ := tV289 Z σ [.ref t, .int a, .int b] T.1.1 T.1.2.1 (ent_gen ⟨okx T.1.2.2.1 T.1.2.2.2.1, okA.any a, okA.any b, trivial⟩ (fun c hc => by cases hc) (by decide)) (fun h => absurd rfl h)
  obtain ⟨Z', T', f1, f2, ex, _, a⟩ := ts_ref T (by decide +kernel) post
  refine ⟨n, r, σ', run, alt_i (C := tC289) rfl a, LI.ref T v T' ex (Rok.fr (fun k i hk => ?_) (Zr.of fun q => f1 26 q (by decide) (by decide +kernel)) (Zr.of fun q => f1 32 q (by decide) (by decide +kernel))) (by decide +kernel) post (fun q => ⟨f1 4 q (by decide) (by decide +kernel), f1 5 q (by decide) (by decide +kernel)⟩)⟩
  rcases hk with e | e | e | e | e | e <;> subst e
  · exact f2 0 i (by decide) (by decide +kernel)
  · exact f1 28 i (by decide) (by decide +kernel)
  · exact f1 39 i (by decide) (by decide +kernel)
  · exact f1 42 i (by decide) (by decide +kernel)
  · exact f2 46 i (by decide) (by decide +kernel)
  · exact f2 47 i (by decide) (by decide +kernel)
theorem rs_answers {a b : Int32} (L : LI b0 j x t qo qa bA A σ) : wp 196 0 (lv_args 0 [.ref t, .int a, .int b]) [] σ (fun r σ' => (∃ w : Int32, r = some (.int w)) ∧ LI b0 (j + 1) x t qo qa bA A σ') := by
  obtain ⟨Z, T, v⟩ := L
  obtain ⟨n, r, σ', run, post⟩ := tV409 Z σ [.ref t, .int a, .int b] T.1.1 T.1.2.1 (ent_gen ⟨okx T.1.2.2.1 T.1.2.2.2.1, okA.any a, okA.any b, trivial⟩ (fun c hc => by cases hc) (by decide)) (fun h => absurd rfl h)
  obtain ⟨Z', T', f1, f2, ex, _, a⟩ := ts_ref T (by decide +kernel) post
  refine ⟨n, r, σ', run, alt_i (C := tC409) rfl a, LI.ref T v T' ex (Rok.fr (fun k i hk => ?_) (Zr.of fun q => f1 26 q (by decide) (by decide +kernel)) (Zr.of fun q => f1 32 q (by decide) (by decide +kernel))) (by decide +kernel) post (fun q => ⟨f1 4 q (by decide) (by decide +kernel), f1 5 q (by decide) (by decide +kernel)⟩)⟩
  rcases hk with e | e | e | e | e | e <;> subst e
  · exact f2 0 i (by decide) (by decide +kernel)
  · exact f1 28 i (by decide) (by decide +kernel)
  · exact f1 39 i (by decide) (by decide +kernel)
  · exact f1 42 i (by decide) (by decide +kernel)
  · exact f2 46 i (by decide) (by decide +kernel)
  · exact f2 47 i (by decide) (by decide +kernel)
theorem rs_found {a b c d : Int32} (L : LI b0 j x t qo qa bA A σ) : wp 197 0 (lv_args 0 [.ref t, .int a, .int b, .int c, .int d]) [] σ (fun r σ' => (∃ w : Int32, r = some (.int w)) ∧ LI b0 (j + 1) x t qo qa bA A σ') := by
  obtain ⟨Z, T, v⟩ := L
  obtain ⟨n, r, σ', run, post⟩ := tV291 Z σ [.ref t, .int a, .int b, .int c, .int d] T.1.1 T.1.2.1 (ent_gen ⟨okx T.1.2.2.1 T.1.2.2.2.1, okA.any a, okA.any b, okA.any c, okA.any d, trivial⟩ (fun c hc => by cases hc) (by decide)) (fun h => absurd rfl h)
  obtain ⟨Z', T', f1, f2, ex, _, a⟩ := ts_ref T (by decide +kernel) post
  refine ⟨n, r, σ', run, alt_i (C := tC291) rfl a, LI.ref T v T' ex (Rok.fr (fun k i hk => ?_) (Zr.of fun q => f1 26 q (by decide) (by decide +kernel)) (Zr.of fun q => f1 32 q (by decide) (by decide +kernel))) (by decide +kernel) post (fun q => ⟨f1 4 q (by decide) (by decide +kernel), f1 5 q (by decide) (by decide +kernel)⟩)⟩
  rcases hk with e | e | e | e | e | e <;> subst e
  · exact f2 0 i (by decide) (by decide +kernel)
  · exact f1 28 i (by decide) (by decide +kernel)
  · exact f1 39 i (by decide) (by decide +kernel)
  · exact f1 42 i (by decide) (by decide +kernel)
  · exact f2 46 i (by decide) (by decide +kernel)
  · exact f2 47 i (by decide) (by decide +kernel)
theorem rs_entry {a b c : Int32} (L : LI b0 j x t qo qa bA A σ) : wp 198 0 (lv_args 0 [.ref t, .int a, .int b, .int c]) [] σ (fun r σ' => (∃ w : Int32, r = some (.int w)) ∧ LI b0 (j + 1) x t qo qa bA A σ') := by
  obtain ⟨Z, T, v⟩ := L
  obtain ⟨n, r, σ', run, post⟩ := tV292 Z σ [.ref t, .int a, .int b, .int c] T.1.1 T.1.2.1 (ent_gen ⟨okx T.1.2.2.1 T.1.2.2.2.1, okA.any a, okA.any b, okA.any c, trivial⟩ (fun c hc => by cases hc) (by decide)) (fun h => absurd rfl h)
  obtain ⟨Z', T', f1, f2, ex, _, a⟩ := ts_ref T (by decide +kernel) post
  refine ⟨n, r, σ', run, alt_i (C := tC292) rfl a, LI.ref T v T' ex (Rok.fr (fun k i hk => ?_) (Zr.of fun q => f1 26 q (by decide) (by decide +kernel)) (Zr.of fun q => f1 32 q (by decide) (by decide +kernel))) (by decide +kernel) post (fun q => ⟨f1 4 q (by decide) (by decide +kernel), f1 5 q (by decide) (by decide +kernel)⟩)⟩
  rcases hk with e | e | e | e | e | e <;> subst e
  · exact f2 0 i (by decide) (by decide +kernel)
  · exact f1 28 i (by decide) (by decide +kernel)
  · exact f1 39 i (by decide) (by decide +kernel)
  · exact f1 42 i (by decide) (by decide +kernel)
  · exact f2 46 i (by decide) (by decide +kernel)
  · exact f2 47 i (by decide) (by decide +kernel)
theorem rs_count {a : Int32} (L : LI b0 j x t qo qa bA A σ) : wp 199 0 (lv_args 0 [.ref t, .int a]) [] σ (fun r σ' => (∃ w : Int32, r = some (.int w)) ∧ LI b0 (j + 1) x t qo qa bA A σ') := by
  obtain ⟨Z, T, v⟩ := L
  obtain ⟨n, r, σ', run, post⟩ := tV293 Z σ [.ref t, .int a] T.1.1 T.1.2.1 (ent_gen ⟨okx T.1.2.2.1 T.1.2.2.2.1, okA.any a, trivial⟩ (fun c hc => by cases hc) (by decide)) (fun h => absurd rfl h)
  obtain ⟨Z', T', f1, f2, ex, _, a⟩ := ts_ref T (by decide +kernel) post
  refine ⟨n, r, σ', run, alt_i (C := tC293) rfl a, LI.ref T v T' ex (Rok.fr (fun k i hk => ?_) (Zr.of fun q => f1 26 q (by decide) (by decide +kernel)) (Zr.of fun q => f1 32 q (by decide) (by decide +kernel))) (by decide +kernel) post (fun q => ⟨f1 4 q (by decide) (by decide +kernel), f1 5 q (by decide) (by decide +kernel)⟩)⟩
  rcases hk with e | e | e | e | e | e <;> subst e
  · exact f2 0 i (by decide) (by decide +kernel)
  · exact f1 28 i (by decide) (by decide +kernel)
  · exact f1 39 i (by decide) (by decide +kernel)
  · exact f1 42 i (by decide) (by decide +kernel)
  · exact f2 46 i (by decide) (by decide +kernel)
  · exact f2 47 i (by decide) (by decide +kernel)
theorem rs_holders {a : Int32} (L : LI b0 j x t qo qa bA A σ) : wp 200 0 (lv_args 0 [.ref t, .int a]) [] σ (fun r σ' => (∃ w : Int32, r = some (.int w)) ∧ LI b0 (j + 1) x t qo qa bA A σ') := by
  obtain ⟨Z, T, v⟩ := L
  obtain ⟨n, r, σ', run, post⟩ := tV294 Z σ [.ref t, .int a] T.1.1 T.1.2.1 (ent_gen ⟨okx T.1.2.2.1 T.1.2.2.2.1, okA.any a, trivial⟩ (fun c hc => by cases hc) (by decide)) (fun h => absurd rfl h)
  obtain ⟨Z', T', f1, f2, ex, _, a⟩ := ts_ref T (by decide +kernel) post
  refine ⟨n, r, σ', run, alt_i (C := tC294) rfl a, LI.ref T v T' ex (Rok.fr (fun k i hk => ?_) (Zr.of fun q => f1 26 q (by decide) (by decide +kernel)) (Zr.of fun q => f1 32 q (by decide) (by decide +kernel))) (by decide +kernel) post (fun q => ⟨f1 4 q (by decide) (by decide +kernel), f1 5 q (by decide) (by decide +kernel)⟩)⟩
  rcases hk with e | e | e | e | e | e <;> subst e
  · exact f2 0 i (by decide) (by decide +kernel)
  · exact f1 28 i (by decide) (by decide +kernel)
  · exact f1 39 i (by decide) (by decide +kernel)
  · exact f1 42 i (by decide) (by decide +kernel)
  · exact f2 46 i (by decide) (by decide +kernel)
  · exact f2 47 i (by decide) (by decide +kernel)
theorem rs_sent {a : Int32} (L : LI b0 j x t qo qa bA A σ) : wp 201 0 (lv_args 0 [.ref t, .int a]) [] σ (fun r σ' => (∃ w : Int32, r = some (.int w)) ∧ LI b0 (j + 1) x t qo qa bA A σ') := by
  obtain ⟨Z, T, v⟩ := L
  obtain ⟨n, r, σ', run, post⟩ := tV295 Z σ [.ref t, .int a] T.1.1 T.1.2.1 (ent_gen ⟨okx T.1.2.2.1 T.1.2.2.2.1, okA.any a, trivial⟩ (fun c hc => by cases hc) (by decide)) (fun h => absurd rfl h)
  obtain ⟨Z', T', f1, f2, ex, _, a⟩ := ts_ref T (by decide +kernel) post
  refine ⟨n, r, σ', run, alt_i (C := tC295) rfl a, LI.ref T v T' ex (Rok.fr (fun k i hk => ?_) (Zr.of fun q => f1 26 q (by decide) (by decide +kernel)) (Zr.of fun q => f1 32 q (by decide) (by decide +kernel))) (by decide +kernel) post (fun q => ⟨f1 4 q (by decide) (by decide +kernel), f1 5 q (by decide) (by decide +kernel)⟩)⟩
  rcases hk with e | e | e | e | e | e <;> subst e
  · exact f2 0 i (by decide) (by decide +kernel)
  · exact f1 28 i (by decide) (by decide +kernel)
  · exact f1 39 i (by decide) (by decide +kernel)
  · exact f1 42 i (by decide) (by decide +kernel)
  · exact f2 46 i (by decide) (by decide +kernel)
  · exact f2 47 i (by decide) (by decide +kernel)
theorem rs_ask {a b : Int32} (L : LI b0 j x t qo qa bA A σ) : wp 185 0 (lv_args 0 [.ref t, .int a, .int b]) [] σ (fun r σ' => (∃ w : Int32, r = some (.int w)) ∧ LI b0 (j + 1) x t qo qa bA A σ') := by
  obtain ⟨Z, T, v⟩ := L
  obtain ⟨n, r, σ', run, post⟩ := tV281 Z σ [.ref t, .int a, .int b] T.1.1 T.1.2.1 (ent_gen ⟨okx T.1.2.2.1 T.1.2.2.2.1, okA.any a, okA.any b, trivial⟩ (fun c hc => by cases hc) (by decide)) (fun h => absurd rfl h)
  obtain ⟨Z', T', f1, f2, ex, _, _⟩ := ts_ref T (by decide +kernel) post
  have run : prun n 185 0 (lv_args 0 [.ref t, .int a, .int b]) [] σ = some (r, σ') := run
  obtain ⟨w, ew, _, R⟩ := pc_ask T.1.W run
  exact ⟨n, r, σ', run, ⟨w, ew⟩, LI.ref T v T' ex R (by decide +kernel) post (fun q => ⟨f1 4 q (by decide) (by decide +kernel), f1 5 q (by decide) (by decide +kernel)⟩)⟩
theorem rs_close {a b : Int32} (L : LI b0 j x t qo qa bA A σ) : wp 187 0 (lv_args 0 [.ref t, .int a, .int b]) [] σ (fun r σ' => (∃ w : Int32, r = some (.int w)) ∧ LI b0 (j + 1) x t qo qa bA A σ') := by
  obtain ⟨Z, T, v⟩ := L
  obtain ⟨n, r, σ', run, post⟩ := tV283 Z σ [.ref t, .int a, .int b] T.1.1 T.1.2.1 (ent_gen ⟨okx T.1.2.2.1 T.1.2.2.2.1, okA.any a, okA.any b, trivial⟩ (fun c hc => by cases hc) (by decide)) (fun h => absurd rfl h)
  obtain ⟨Z', T', f1, f2, ex, _, _⟩ := ts_ref T (by decide +kernel) post
  have run : prun n 187 0 (lv_args 0 [.ref t, .int a, .int b]) [] σ = some (r, σ') := run
  obtain ⟨w, ew, _, R⟩ := pc_close T.1.W run
  exact ⟨n, r, σ', run, ⟨w, ew⟩, LI.ref T v T' ex R (by decide +kernel) post (fun q => ⟨f1 4 q (by decide) (by decide +kernel), f1 5 q (by decide) (by decide +kernel)⟩)⟩
theorem rs_give {a : Int32} (hj : j ≤ 600) (L : LI b0 j x t qo qa bA A σ) : wp 191 0 (lv_args 0 [.ref t, .int a]) [] σ (fun r σ' => (∃ w : Int32, r = some (.int w)) ∧ LI b0 (j + 1) x t qo qa bA A σ') := by
  obtain ⟨Z, T, v⟩ := L
  obtain ⟨m1, m2⟩ := v.1.m T.1 hj
  have W := T.1
  obtain ⟨n, r, σ', run, post⟩ := gv_ok (vs := [.ref t, .int a, .int (gI (vw t A σ) 47 0)]) T.1.1 T.1.2.1 (ent_gen ⟨okx T.1.2.2.1 T.1.2.2.2.1, okA.any a, okA.wide m1.1 m1.2, trivial⟩ (fun c hc => by
    have hc : c ∈ [(0, 0, 47, 2)] := hc
    rw [List.mem_singleton] at hc
    subst hc
    exact ch47 T.1 rfl rfl) (by decide)) T.1.2.2.2.2.2.2
  obtain ⟨Z', T', f1, f2, ex, _, _⟩ := ts_ref T (by decide +kernel) post
  have run : prun n 191 0 (lv_args 0 [.ref t, .int a]) [] σ = some (r, σ') := run
  have ty := W.ty1
  have tY : ∀ g : Nat, g < 8 → (0 ≤ (gI (vw t A σ) 31 g).toInt ∧ (gI (vw t A σ) 31 g).toInt ≤ 4) ∧ (0 ≤ (gI (vw t A σ) 32 g).toInt ∧ (gI (vw t A σ) 32 g).toInt ≤ 24) ∧ (0 ≤ (gI (vw t A σ) 20 (16 * g)).toInt ∧ (gI (vw t A σ) 20 (16 * g)).toInt ≤ 15) ∧ (gI (vw t A σ) 16 g).toInt ≤ 3 := fun g hg => by
    have hw := (W.ri (j := 20) (i := 16 * g) (by decide) (by decide) (by show ((16 * g : Nat) : Int) < 128; omega)).2
    rw [show fty (40 + 20) (16 * g) = aI 0 15 from fty_w (by decide) (by decide)] at hw
    exact ⟨(ty g hg).1, (ty g hg).2.1, hw, (W.ri (j := 16) (i := g) (by decide) (by decide) (by show (g : Int) < 8; omega)).2.2⟩
  obtain ⟨w, ew, _, R⟩ := pc_give W.W run W.at m1 m2 tY (fun q hq => (W.ri (j := 1) (i := q) (by decide) (by decide) (by show (q : Int) < 200; omega)).2) W.pb (W.fi (j := 2) (i := 0) (by decide)).2.2
  exact ⟨n, r, σ', run, ⟨w, ew⟩, LI.ref T v T' ex R (by decide +kernel) post (fun q => ⟨f1 4 q (by decide) (by decide +kernel), f1 5 q (by decide) (by decide +kernel)⟩)⟩
/-- behind the class's go -/
def LG (b0 j x t qo qa bA : Nat) (A : Nat → Nat) (m w : Int32) (σ : ps) : Prop := ∃ Z, Tq b0 j x t qo qa bA A Z σ ∧ ∃ T T1 : Int64, sV σ x 9 = .long T1 ∧ gL (vw t A σ) 0 0 = T ∧ (0 ≤ T.toInt ∧ T.toInt ≤ 20000 * (j : Int)) ∧ (QW (vw t A σ) ∧ EA (vw t A σ) ∧ rg w2 (vw t A σ) ≤ j) ∧ (((m.toInt < 0 ∨ 20000 < m.toInt) ∧ w.toInt = -1 ∧ T1 = T) ∨ ((0 ≤ m.toInt ∧ m.toInt ≤ 20000) ∧ w.toInt = T.toInt + m.toInt ∧ T1.toInt = T.toInt + m.toInt)) ∧ HC bA x t A σ
theorem cs_go {a : Int32} (hj : j ≤ 600) (L : LI b0 j x t qo qa bA A σ) : wp 101 0 (lv_args 0 [.ref x, .int a]) [] σ (fun r σ' => ∃ w : Int32, r = some (.int w) ∧ LG b0 j x t qo qa bA A a w σ') := by
  obtain ⟨Z, T, ⟨⟨tm, c1, c2, c3, c4⟩, c5⟩, hc⟩ := L
  obtain ⟨n, r, σ', run, post⟩ := tV137 Z σ [.ref x, .int a] T.1.1 T.1.2.1 (ent_gen ⟨okx T.2.1.1 T.2.1.2, okA.any a, trivial⟩ (fun c hc => by cases hc) (by decide)) (fun h => absurd rfl h)
  obtain ⟨Z', T', e, _, _, _⟩ := ts_cls T (by decide +kernel) post
  have hc' := hc.cls T.xm T.2.1.2 post (by decide +kernel) e
  have run : prun n 101 0 (lv_args 0 [.ref x, .int a]) [] σ = some (r, σ') := run
  have ra := n_rng a
  rcases pc_cgo T.1.2.1 run c1 with ⟨b1, b2, b3⟩ | ⟨b1, b2, b3⟩
  · have b3 : σ' = σ := b3
    refine ⟨n, r, σ', run, _, b2, Z', T', tm, tm, by rw [b3]; exact c1, by rw [e]; exact c2, ⟨c3, c4⟩, by rw [e]; exact c5, Or.inl ⟨b1, by decide, rfl⟩, hc'⟩
  · have s : (tm + a.toInt64).toInt = tm.toInt + a.toInt := by rw [lw_add (by rw [lw_i2l]; omega) (by rw [lw_i2l]; omega), lw_i2l]
    refine ⟨n, r, σ', run, _, b2, Z', T', tm, tm + a.toInt64, b3, by rw [e]; exact c2, ⟨c3, c4⟩, by rw [e]; exact c5, Or.inr ⟨b1, ?_, s⟩, hc'⟩
    rw [lw_l2i (by rw [s]; omega) (by rw [s]; omega), s]
theorem rs_go {a w : Int32} (hj : j ≤ 600) (L : LG b0 j x t qo qa bA A a w σ) : wp 167 0 (lv_args 0 [.ref t, .int a]) [] σ (fun r σ' => r = some (.int w) ∧ LI b0 (j + 1) x t qo qa bA A σ') := by
  obtain ⟨Z, T, tm, T1, c1, c2, c3, ⟨q, e, g⟩, c4, hc⟩ := L
  have I : MsI (vw t A σ) := ⟨by rw [c2]; omega, q, e⟩
  have hD8 : sm (hD (vw t A σ)) 8 ≤ 16 := by
    have s : sm (hD (vw t A σ)) 8 ≤ sm (fun _ => 2) 8 := sm_le 8 fun i _ => hD_le2
    have : sm (fun _ => 2) 8 = 16 := by decide
    omega
  have hP : P2 (vw t A σ) ≤ 790 := by unfold P2; omega
  obtain ⟨n, r, σ', run, w', Z', er, ⟨W', zz, S, K, I'⟩, D⟩ := go_ok (n := a) T.1 I hP (by rw [c2]; omega)
  have ap : ∀ a, (sK σ a = 25 ∨ sK σ a = 3) → a < bA → ∀ i, sV σ' a i = sV σ a i := by
    intro a ka hb i
    refine S.2.2.2.2.2 a i (fun e => ?_) (fun k e => ?_)
    · have := T.1.2.2.2.1; rw [← e] at this; omega
    · cases hk : isRw k with
      | true => have := (T.1.W.2.2.1 k hk).2; rw [← e] at this; omega
      | false => have := T.2.2.2.2.1 k hk; omega
  obtain ⟨T', ex⟩ := T.sp W' zz S
  have hc' : HC bA x t A σ' := hc.of (by rw [ex]) (fun a _ hk hb => ap a (Or.inl hk) hb) (fun a _ hk hb => ⟨ap a (Or.inr hk) hb 7, ap a (Or.inr hk) hb 8⟩) (fun a ha => ⟨by rw [S.2.1]; exact ha, by rw [S.2.2.1]⟩) (fun q => ⟨K 4 q (by unfold kept2; omega) (by decide) (by decide), K 5 q (by unfold kept2; omega) (by decide) (by decide)⟩)
  have ew : w' = w := by
    refine Int32.toInt_inj.mp ?_
    rcases D with ⟨d1, d2, _⟩ | ⟨d1, _, _, d2⟩
    · rcases c4 with ⟨_, c5, _⟩ | ⟨c5, _⟩
      · omega
      · omega
    · rw [c2] at d2
      rcases c4 with ⟨c5, _⟩ | ⟨_, c5, _⟩
      · omega
      · omega
  obtain ⟨a1, a2, a3, a4, a5⟩ := T'
  refine ⟨n, r, σ', run, by rw [er, ew], Z', ⟨a1, a2, a3, a4.up (by omega), a5⟩, ⟨⟨T1, by rw [ex]; exact c1, ?_, ?_⟩, I'.2.1, I'.2.2, ?_⟩, hc'⟩
  · refine Int64.toInt_inj.mp ?_
    rcases D with ⟨d1, _, d2⟩ | ⟨d1, _, d2, _⟩
    · rcases c4 with ⟨_, _, c5⟩ | ⟨c5, _⟩
      · rw [d2, gL_ne (by decide), c2, c5]
      · omega
    · rcases c4 with ⟨c5, _⟩ | ⟨_, _, c5⟩
      · omega
      · rw [d2, c2, c5]
  · rcases c4 with ⟨_, _, c5⟩ | ⟨c5, _, c6⟩
    · rw [c5]; omega
    · omega
  · rcases D with ⟨_, _, d2⟩ | ⟨_, d2, _⟩
    · rw [d2, show rg w2 (up (vw t A σ) 3 0 (.int 0)) = rg w2 (vw t A σ) from rfl]; omega
    · have e : rg w2 (vw t A σ') = 0 := by unfold rg; rw [d2]; rfl
      omega
theorem w_eq {P : Prop} {w w' : Int32} (h : (P ∧ w.toInt = 1) ∨ ((¬ P) ∧ w.toInt = 0)) (h' : (P ∧ w'.toInt = 1) ∨ ((¬ P) ∧ w'.toInt = 0)) : w' = w := by
  refine Int32.toInt_inj.mp ?_
  rcases h with ⟨a, b⟩ | ⟨a, b⟩ <;> rcases h' with ⟨c, d⟩ | ⟨c, d⟩
  · omega
  · exact absurd a c
  · exact absurd c a
  · omega
theorem cs_lose {a b : Int32} (L : LI b0 j x t qo qa bA A σ) : wp 97 0 (lv_args 0 [.ref x, .int a, .int b]) [] σ (fun r σ' => ∃ w : Int32, r = some (.int w) ∧ LM b0 j x t qo qa bA A σ' (LVH j x t bA A σ' ∧ ((loseOK (gI (vw t A σ') 4) a b ∧ w.toInt = 1) ∨ ((¬ loseOK (gI (vw t A σ') 4) a b) ∧ w.toInt = 0)))) := by
  obtain ⟨Z, T, v⟩ := L
  obtain ⟨n, r, σ', run, post⟩ := tV110 Z σ [.ref x, .int a, .int b] T.1.1 T.1.2.1 (ent_gen ⟨okx T.2.1.1 T.2.1.2, okA.any a, okA.any b, trivial⟩ (fun c hc => by cases hc) (by decide)) (fun h => absurd rfl h)
  have run : prun n 97 0 (lv_args 0 [.ref x, .int a, .int b]) [] σ = some (r, σ') := run
  obtain ⟨Z', T', v', e, _⟩ := LI.cls0 T v.1 (by decide +kernel) (by decide +kernel) post
  have hc' := v.2.cls T.xm T.2.1.2 post (by decide +kernel) e
  obtain ⟨hr, ha, C, K, f1, f2, _⟩ := v.2.f
  obtain ⟨w, er, z⟩ := pc_lo C run
  refine ⟨n, r, σ', run, w, er, Z', T', ⟨v', hc'⟩, ?_⟩
  rw [e]
  have q : loseOK (cO σ ha) a b ↔ loseOK (gI (vw t A σ) 4) a b := ⟨fun h => ⟨(f1 a).mp h.1, h.2⟩, fun h => ⟨(f1 a).mpr h.1, h.2⟩⟩
  rw [← q]
  exact z
theorem rs_lose {a b w : Int32} (L : LM b0 j x t qo qa bA A σ (LVH j x t bA A σ ∧ ((loseOK (gI (vw t A σ) 4) a b ∧ w.toInt = 1) ∨ ((¬ loseOK (gI (vw t A σ) 4) a b) ∧ w.toInt = 0)))) : wp 190 0 (lv_args 0 [.ref t, .int a, .int b]) [] σ (fun r σ' => r = some (.int w) ∧ LI b0 (j + 1) x t qo qa bA A σ') := by
  obtain ⟨Z, T, v, hw⟩ := L
  obtain ⟨n, r, σ', run, post⟩ := tV286 Z σ [.ref t, .int a, .int b] T.1.1 T.1.2.1 (ent_gen ⟨okx T.1.2.2.1 T.1.2.2.2.1, okA.any a, okA.any b, trivial⟩ (fun c hc => by cases hc) (by decide)) (fun h => absurd rfl h)
  obtain ⟨Z', T', f1, f2, ex, _, al⟩ := ts_ref T (by decide +kernel) post
  have run : prun n 190 0 (lv_args 0 [.ref t, .int a, .int b]) [] σ = some (r, σ') := run
  obtain ⟨w', er, z⟩ := pc_lose2 T.1.W run
  have er : r = some (.int w') := er
  refine ⟨n, r, σ', run, by rw [er, w_eq hw z], LI.ref T v T' ex (Rok.fr (fun k i hk => ?_) (Zr.of fun q => f1 26 q (by decide) (by decide +kernel)) (Zr.of fun q => f1 32 q (by decide) (by decide +kernel))) (by decide +kernel) post (fun q => ⟨f1 4 q (by decide) (by decide +kernel), f1 5 q (by decide) (by decide +kernel)⟩)⟩
  rcases hk with e | e | e | e | e | e <;> subst e
  · exact f2 0 i (by decide) (by decide +kernel)
  · exact f1 28 i (by decide) (by decide +kernel)
  · exact f1 39 i (by decide) (by decide +kernel)
  · exact f1 42 i (by decide) (by decide +kernel)
  · exact f2 46 i (by decide) (by decide +kernel)
  · exact f2 47 i (by decide) (by decide +kernel)
/-- behind the class's on -/
def PN (j x t bA : Nat) (A : Nat → Nat) (a b w : Int32) (σ : ps) : Prop := LV10 j x t A σ ∧ ((onOK (gI (vw t A σ) 4) (gI (vw t A σ) 5) a b ∧ w.toInt = 1 ∧ HM bA x t A σ a.toNatClampNeg true b) ∨ ((¬ onOK (gI (vw t A σ) 4) (gI (vw t A σ) 5) a b) ∧ w.toInt = 0 ∧ HC bA x t A σ))
def PF (j x t bA : Nat) (A : Nat → Nat) (a w : Int32) (σ : ps) : Prop := LV10 j x t A σ ∧ ((offOK (gI (vw t A σ) 4) a ∧ w.toInt = 1 ∧ HM bA x t A σ a.toNatClampNeg false 0) ∨ ((¬ offOK (gI (vw t A σ) 4) a) ∧ w.toInt = 0 ∧ HC bA x t A σ))
theorem cs_on {a b : Int32} (L : LI b0 j x t qo qa bA A σ) : wp 91 0 (lv_args 0 [.ref x, .int a, .int b]) [] σ (fun r σ' => ∃ w : Int32, r = some (.int w) ∧ LM b0 j x t qo qa bA A σ' (PN j x t bA A a b w σ')) := by
  obtain ⟨Z, T, v⟩ := L
  obtain ⟨n, r, σ', run, post⟩ := tV95 Z σ [.ref x, .int a, .int b] T.1.1 T.1.2.1 (ent_gen ⟨okx T.2.1.1 T.2.1.2, okA.any a, okA.any b, trivial⟩ (fun c hc => by cases hc) (by decide)) (fun h => absurd rfl h)
  have run : prun n 91 0 (lv_args 0 [.ref x, .int a, .int b]) [] σ = some (r, σ') := run
  obtain ⟨Z', T', v', e, _⟩ := LI.cls0 T v.1 (by decide +kernel) (by decide +kernel) post
  obtain ⟨hr, ha, C, K, f1, f2, r1, g, u⟩ := v.2.f
  obtain ⟨w, er, z⟩ := pc_con C K T.1.2.1 run
  obtain ⟨p1, p2⟩ := post_c post
  refine ⟨n, r, σ', run, w, er, Z', T', v', ?_⟩
  rcases z with ⟨ok, iw, o1, o2, o3⟩ | ⟨nok, iw, es⟩
  · have cn : (a.toNatClampNeg : Int) = a.toInt := n_clamp ok.1.1
    have l8 : a.toNatClampNeg < 8 := by have := ok.1; omega
    have o2 : sV σ' (ha a.toNatClampNeg) 7 = .int 1 := o2
    have o3 : sV σ' (ha a.toNatClampNeg) 8 = .int b := o3
    refine Or.inl ⟨by rw [e]; exact (f2 a b).mp ok, iw, hr, ha, ⟨?_, fun i hi => ?_, C.2.2.1, fun i hi => ?_⟩, ⟨(p1 hr r1.1).1, (p1 hr r1.1).2.trans r1.2.1, r1.2.2⟩, fun i hi => ⟨(p1 _ (g i hi).1).1, (p1 _ (g i hi).1).2.trans (g i hi).2.1, (g i hi).2.2⟩, fun i hi ne => ?_, l8, ?_⟩
    · rw [p2 x T.xm 0 (by rw [T.2.1.2]; decide +kernel)]; exact C.1
    · rw [p2 hr r1.1 i (by rw [r1.2.1, inM_row (j' := 0) (by decide)]; decide +kernel)]; exact C.2.1 i hi
    · by_cases ei : i = a.toNatClampNeg
      · rw [ei, o2, o3]; exact ⟨rfl, rfl⟩
      · rw [(o1 i hi ei).1, (o1 i hi ei).2]; exact C.2.2.2 i hi
    · unfold cO cI
      rw [(o1 i hi ne).1, (o1 i hi ne).2, e]
      exact u i hi
    · show cO σ' ha a.toNatClampNeg = 1 ∧ cI σ' ha a.toNatClampNeg = b
      unfold cO cI
      rw [o2, o3]
      exact ⟨rfl, rfl⟩
  · have es : σ' = σ := es
    refine Or.inr ⟨by rw [e]; exact fun h => nok ((f2 a b).mpr h), iw, by rw [es]; exact v.2⟩
theorem rs_on {a b w : Int32} (L : LM b0 j x t qo qa bA A σ (PN j x t bA A a b w σ)) : wp 180 0 (lv_args 0 [.ref t, .int a, .int b]) [] σ (fun r σ' => r = some (.int w) ∧ LI b0 (j + 1) x t qo qa bA A σ') := by
  obtain ⟨Z, T, v, hw⟩ := L
  obtain ⟨n, r, σ', run, post⟩ := tV277 Z σ [.ref t, .int a, .int b] T.1.1 T.1.2.1 (ent_gen ⟨okx T.1.2.2.1 T.1.2.2.2.1, okA.any a, okA.any b, trivial⟩ (fun c hc => by cases hc) (by decide)) (fun h => absurd rfl h)
  obtain ⟨Z', T', f1, f2, ex, _, _⟩ := ts_ref T (by decide +kernel) post
  have run : prun n 180 0 (lv_args 0 [.ref t, .int a, .int b]) [] σ = some (r, σ') := run
  obtain ⟨w0, ew, _, R⟩ := pc_on T.1.W run
  obtain ⟨w', er, z⟩ := pc_on2 T.1.W run
  have er : r = some (.int w') := er
  obtain ⟨p1, p2⟩ := post_r (C := tC277) (by decide +kernel) post
  have k25 : ∀ a ∈ sL σ, sK σ a = 25 → a < bA → ∀ i, sV σ' a i = sV σ a i := fun a ha hk _ => p2 a ha (by rw [hk]; decide) (by rw [hk]; decide)
  have k3 : ∀ a ∈ sL σ, sK σ a = 3 → a < bA → sV σ' a 7 = sV σ a 7 ∧ sV σ' a 8 = sV σ a 8 := fun a ha hk _ => ⟨p2 a ha (by rw [hk]; decide) (by rw [hk]; decide) 7, p2 a ha (by rw [hk]; decide) (by rw [hk]; decide) 8⟩
  rcases hw with ⟨ok, iw, hm⟩ | ⟨nok, iw, hc⟩
  · rcases z with ⟨_, iw', s1, s2⟩ | ⟨no, _⟩
    · refine ⟨n, r, σ', run, by rw [er, Int32.toInt_inj.mp (iw'.trans iw.symm)], LI.ref0 T v T' ex R (hm.of (by rw [ex]) k25 k3 p1 s1 s2)⟩
    · exact absurd ok no
  · rcases z with ⟨yes, _⟩ | ⟨_, iw', s⟩
    · exact absurd yes nok
    · exact ⟨n, r, σ', run, by rw [er, Int32.toInt_inj.mp (iw'.trans iw.symm)], LI.ref0 T v T' ex R (hc.of (by rw [ex]) k25 k3 p1 s)⟩
theorem cs_off {a b : Int32} (L : LI b0 j x t qo qa bA A σ) (hb : 0 ≤ b.toInt ∧ b.toInt ≤ 1) : wp 92 0 (lv_args 0 [.ref x, .int a, .int b]) [] σ (fun r σ' => ∃ w : Int32, r = some (.int w) ∧ LM b0 j x t qo qa bA A σ' (PF j x t bA A a w σ')) := by
  obtain ⟨Z, T, v⟩ := L
  obtain ⟨n, r, σ', run, post⟩ := tV105 Z σ [.ref x, .int a, .int b] T.1.1 T.1.2.1 (ent_gen ⟨okx T.2.1.1 T.2.1.2, okA.any a, okA.mkI (lo := 0) (hi := 1) hb.1 hb.2, trivial⟩ (fun c hc => by cases hc) (by decide)) (fun h => absurd rfl h)
  have run : prun n 92 0 (lv_args 0 [.ref x, .int a, .int b]) [] σ = some (r, σ') := run
  obtain ⟨Z', T', v', e, _⟩ := LI.cls0 T v.1 (by decide +kernel) (by decide +kernel) post
  obtain ⟨hr, ha, C, K, f1, f2, r1, g, u⟩ := v.2.f
  obtain ⟨w, er, z⟩ := pc_of C K T.1.2.1 run
  obtain ⟨p1, p2⟩ := post_c post
  refine ⟨n, r, σ', run, w, er, Z', T', v', ?_⟩
  rcases z with ⟨ok, iw, o1, o2, o3⟩ | ⟨nok, iw, es⟩
  · have cn : (a.toNatClampNeg : Int) = a.toInt := n_clamp ok.1.1
    have l8 : a.toNatClampNeg < 8 := by have := ok.1; omega
    have o2 : sV σ' (ha a.toNatClampNeg) 7 = .int 0 := o2
    have o3 : sV σ' (ha a.toNatClampNeg) 8 = sV σ (ha a.toNatClampNeg) 8 := o3
    refine Or.inl ⟨by rw [e]; exact (f1 a).mp ok, iw, hr, ha, ⟨?_, fun i hi => ?_, C.2.2.1, fun i hi => ?_⟩, ⟨(p1 hr r1.1).1, (p1 hr r1.1).2.trans r1.2.1, r1.2.2⟩, fun i hi => ⟨(p1 _ (g i hi).1).1, (p1 _ (g i hi).1).2.trans (g i hi).2.1, (g i hi).2.2⟩, fun i hi ne => ?_, l8, ?_⟩
    · rw [p2 x T.xm 0 (by rw [T.2.1.2]; decide +kernel)]; exact C.1
    · rw [p2 hr r1.1 i (by rw [r1.2.1, inM_row (j' := 0) (by decide)]; decide +kernel)]; exact C.2.1 i hi
    · by_cases ei : i = a.toNatClampNeg
      · rw [ei, o2, o3]; exact ⟨rfl, (C.2.2.2 _ l8).2⟩
      · rw [(o1 i hi ei).1, (o1 i hi ei).2]; exact C.2.2.2 i hi
    · unfold cO cI
      rw [(o1 i hi ne).1, (o1 i hi ne).2, e]
      exact u i hi
    · show cO σ' ha a.toNatClampNeg = 0
      unfold cO
      rw [o2]
      rfl
  · have es : σ' = σ := es
    refine Or.inr ⟨by rw [e]; exact fun h => nok ((f1 a).mpr h), iw, by rw [es]; exact v.2⟩
theorem rs_off {a b w : Int32} (hj : j ≤ 600) (hb : 0 ≤ b.toInt ∧ b.toInt ≤ 1) (L : LM b0 j x t qo qa bA A σ (PF j x t bA A a w σ)) : wp 182 0 (lv_args 0 [.ref t, .int a, .int b]) [] σ (fun r σ' => r = some (.int w) ∧ LI b0 (j + 1) x t qo qa bA A σ') := by
  obtain ⟨Z, T, v, hw⟩ := L
  obtain ⟨m1, m2⟩ := v.m T.1 hj
  obtain ⟨n, r, σ', run, post⟩ := tV278 Z σ [.ref t, .int a, .int b, .int (gI (vw t A σ) 47 0)] T.1.1 T.1.2.1 (ent_gen ⟨okx T.1.2.2.1 T.1.2.2.2.1, okA.any a, okA.mkI (lo := 0) (hi := 1) hb.1 hb.2, okA.wide m1.1 m1.2, trivial⟩ (fun c hc => by
    have hc : c ∈ [(0, 0, 47, 3)] := hc
    rw [List.mem_singleton] at hc
    subst hc
    exact ch47 T.1 rfl rfl) (by decide)) (fun h => absurd rfl h)
  obtain ⟨Z', T', f1, f2, ex, _, _⟩ := ts_ref T (by decide +kernel) post
  have run : prun n 182 0 (lv_args 0 [.ref t, .int a, .int b]) [] σ = some (r, σ') := run
  obtain ⟨w0, ew, _, R⟩ := pc_off T.1.W run T.1.at m1 m2
  obtain ⟨w', er, z⟩ := pc_off2 T.1.W run T.1.at m1 m2
  have er : r = some (.int w') := er
  obtain ⟨p1, p2⟩ := post_r (C := tC278) (by decide +kernel) post
  have k25 : ∀ a ∈ sL σ, sK σ a = 25 → a < bA → ∀ i, sV σ' a i = sV σ a i := fun a ha hk _ => p2 a ha (by rw [hk]; decide) (by rw [hk]; decide)
  have k3 : ∀ a ∈ sL σ, sK σ a = 3 → a < bA → sV σ' a 7 = sV σ a 7 ∧ sV σ' a 8 = sV σ a 8 := fun a ha hk _ => ⟨p2 a ha (by rw [hk]; decide) (by rw [hk]; decide) 7, p2 a ha (by rw [hk]; decide) (by rw [hk]; decide) 8⟩
  rcases hw with ⟨ok, iw, hm⟩ | ⟨nok, iw, hc⟩
  · rcases z with ⟨_, iw', s1, s2⟩ | ⟨no, _⟩
    · refine ⟨n, r, σ', run, by rw [er, Int32.toInt_inj.mp (iw'.trans iw.symm)], LI.ref0 T v T' ex R (hm.of (by rw [ex]) k25 k3 p1 s1 s2)⟩
    · exact absurd ok no
  · rcases z with ⟨yes, _⟩ | ⟨_, iw', s⟩
    · exact absurd yes nok
    · exact ⟨n, r, σ', run, by rw [er, Int32.toInt_inj.mp (iw'.trans iw.symm)], LI.ref0 T v T' ex R (hc.of (by rw [ex]) k25 k3 p1 s)⟩
theorem LM.ct {Q : Prop} (h : LM b0 j x t qo qa bA A σ Q) : t ∈ sL σ ∧ sK σ t = 13 := by
  obtain ⟨Z, T, _⟩ := h
  exact ⟨T.1.mem, T.1.2.2.2.1⟩
theorem LM.rm {Q : Prop} (h : LM b0 j x t qo qa bA A σ Q) : σ.1 ≤ b0 + 5000 + 700 * j ∧ σ.2.1 ≤ 420000 + 6 * j := by
  obtain ⟨Z, T, _⟩ := h
  exact T.2.2.2.1.le
end
