theorem Rok.w {V V' : Nat → Nat → Value} (r : Rok V V') (q : QW V) (e : EA V) (ty : ∀ g, g < 8 → Ty1 V g) : QW V' ∧ EA V' := ⟨r.1 q, r.2.1 e (fun g hg => (ty g hg).2.1)⟩
/-- the law's loop: j calls are done -/
def LV10 (j x t : Nat) (A : Nat → Nat) (σ : ps) : Prop := (∃ T : Int64, sV σ x 9 = .long T ∧ gL (vw t A σ) 0 0 = T ∧ 0 ≤ T.toInt ∧ T.toInt ≤ 20000 * (j : Int)) ∧ QW (vw t A σ) ∧ EA (vw t A σ) ∧ rg w2 (vw t A σ) ≤ j
def LI (b0 j x t qo qa bA : Nat) (A : Nat → Nat) (σ : ps) : Prop := ∃ Z, Tq b0 j x t qo qa bA A Z σ ∧ LV10 j x t A σ
section
variable {b0 j x t qo qa bA : Nat} {A : Nat → Nat} {σ : ps}
theorem alt_i {Z : Nat → Prop} {σ : ps} {vs : List Value} {r : Option Value} {C : CT} {e : List AV} {lo hi : Int} {a b : Nat} (hC : cAlt C = [(e, [(0, lo, hi, a, b)], [])]) (h : ∃ alt ∈ cAlt C, altOK Z σ vs r alt) : ∃ w : Int32, r = some (.int w) := by
  obtain ⟨alt, h1, h2⟩ := h
  rw [hC, List.mem_singleton] at h1
  subst h1
  rcases h2.2.2.1 with ⟨q, _⟩ | ⟨t2, v, q, er, ov⟩
  · cases q
  · cases q
    obtain ⟨y, ey, _⟩ := ov.i rfl
    exact ⟨y, by rw [er, ey]⟩
theorem alt_v {Z : Nat → Prop} {σ : ps} {vs : List Value} {r : Option Value} {C : CT} {e : List AV} (hC : cAlt C = [(e, [], [])]) (h : ∃ alt ∈ cAlt C, altOK Z σ vs r alt) : r = none := by
  obtain ⟨alt, h1, h2⟩ := h
  rw [hC, List.mem_singleton] at h1
  subst h1
  rcases h2.2.2.1 with ⟨_, q⟩ | ⟨t2, v, q, _⟩
  · exact q
  · cases q
theorem okx {Z : Nat → Prop} {L : List Nat} {K : Nat → Nat} {a k : Nat} (h1 : Z a) (h2 : K a = k) : okA Z L K (2, ((k : Nat) : Int), 0, 0, 0) (.ref a) := Or.inr (Or.inr (Or.inl ⟨rfl, a, rfl, h1, by rw [h2]; show k = ((k : Nat) : Int).toNat; omega⟩))
/-- behind a class's call that leaves the time -/
theorem LI.cls {C : CT} {vs : List Value} {r : Option Value} {σ' : ps} {Z : Nat → Prop} (T : Tq b0 j x t qo qa bA A Z σ) (v : LV10 j x t A σ) (hq : clsQ C = true) (h9 : inM (cMod C) 12 9 = false) (p : Post C Z σ vs r σ') : LI b0 j x t qo qa bA A σ' ∧ ∃ Z', ∃ alt ∈ cAlt C, altOK Z' σ' vs r alt := by
  obtain ⟨Z', T', e, f, _, a⟩ := ts_cls T hq p
  obtain ⟨⟨tm, c1, c2⟩, c3⟩ := v
  refine ⟨⟨Z', T', ⟨tm, by rw [f 9 h9]; exact c1, by rw [e]; exact c2⟩, by rw [e]; exact c3⟩, Z', a⟩
/-- behind a reference's call that leaves the time -/
theorem LI.ref {σ' : ps} {Z Z' : Nat → Prop} (T : Tq b0 j x t qo qa bA A Z σ) (v : LV10 j x t A σ) (T' : Tq b0 j x t qo qa bA A Z' σ') (ex : sV σ' x = sV σ x) (r : Rok (vw t A σ) (vw t A σ')) : LI b0 (j + 1) x t qo qa bA A σ' := by
  obtain ⟨⟨tm, c1, c2, c3, c4⟩, c5, c6, c7⟩ := v
  obtain ⟨q', e'⟩ := r.w c5 c6 T.1.ty1
  obtain ⟨a1, a2, a3, a4, a5⟩ := T'
  refine ⟨Z', ⟨a1, a2, a3, a4.up (by omega), a5⟩, ⟨tm, by rw [ex]; exact c1, by rw [gL_of r.2.2.1]; exact c2, c3, by omega⟩, q', e', ?_⟩
  have := r.2.2.2
  omega
theorem LV10.m (v : LV10 j x t A σ) {Z : Nat → Prop} (W : WT Z t A σ) (hj : j ≤ 600) : (0 ≤ (gI (vw t A σ) 47 0).toInt ∧ (gI (vw t A σ) 47 0).toInt ≤ 1000) ∧ (gI (vw t A σ) 47 0).toInt < 800 := by
  have := rg_many (vw t A σ)
  have h := v.2.2.2
  have m := W.many
  omega
theorem ch47 {Z : Nat → Prop} (W : WT Z t A σ) {vs : List Value} {i : Nat} (h0 : vs.getD 0 .null = .ref t) (hi : vs.getD i .null = .int (gI (vw t A σ) 47 0)) : chOK (fun i => vs.getD i .null) σ (0, 0, 47, i) := by
  have e47 : sV σ t 47 = .int (gI (vw t A σ) 47 0) := by
    rw [← (W.fi (j := 47) (i := 0) (by decide)).1]
    unfold vw
    rw [show isRw 47 = false from rfl, if_neg (by decide)]
  exact Or.inr ⟨t, h0, Or.inl ⟨rfl, by rw [show sV σ t (47 : Int).toNat = sV σ t 47 from rfl, e47]; exact hi.symm⟩⟩
theorem cs_feed {a b c d e : Int32} (L : LI b0 j x t qo qa bA A σ) : wp 87 0 (lv_args 0 [.ref x, .int a, .int b, .int c, .int d, .int e]) [] σ (fun r σ' => (∃ w : Int32, r = some (.int w)) ∧ LI b0 j x t qo qa bA A σ') := by
  obtain ⟨Z, T, v⟩ := L
  obtain ⟨n, r, σ', run, post⟩ := tV89 Z σ [.ref x, .int a, .int b, .int c, .int d, .int e] T.1.1 T.1.2.1 (ent_gen ⟨okx T.2.1.1 T.2.1.2, okA.any a, okA.any b, okA.any c, okA.any d, okA.any e, trivial⟩ (fun c hc => by cases hc) (by decide)) (fun h => absurd rfl h)
  obtain ⟨L', Z', a⟩ := LI.cls T v (by decide +kernel) (by decide +kernel) post
  exact ⟨n, r, σ', run, alt_i (C := tC89) rfl a, L'⟩
theorem cs_end {a : Int32} (L : LI b0 j x t qo qa bA A σ) : wp 88 0 (lv_args 0 [.ref x, .int a]) [] σ (fun r σ' => (∃ w : Int32, r = some (.int w)) ∧ LI b0 j x t qo qa bA A σ') := by
  obtain ⟨Z, T, v⟩ := L
  obtain ⟨n, r, σ', run, post⟩ := tV90 Z σ [.ref x, .int a] T.1.1 T.1.2.1 (ent_gen ⟨okx T.2.1.1 T.2.1.2, okA.any a, trivial⟩ (fun c hc => by cases hc) (by decide)) (fun h => absurd rfl h)
  obtain ⟨L', Z', a⟩ := LI.cls T v (by decide +kernel) (by decide +kernel) post
  exact ⟨n, r, σ', run, alt_i (C := tC90) rfl a, L'⟩
theorem cs_on {a b : Int32} (L : LI b0 j x t qo qa bA A σ) : wp 91 0 (lv_args 0 [.ref x, .int a, .int b]) [] σ (fun r σ' => (∃ w : Int32, r = some (.int w)) ∧ LI b0 j x t qo qa bA A σ') := by
  obtain ⟨Z, T, v⟩ := L
  obtain ⟨n, r, σ', run, post⟩ := tV95 Z σ [.ref x, .int a, .int b] T.1.1 T.1.2.1 (ent_gen ⟨okx T.2.1.1 T.2.1.2, okA.any a, okA.any b, trivial⟩ (fun c hc => by cases hc) (by decide)) (fun h => absurd rfl h)
  obtain ⟨L', Z', a⟩ := LI.cls T v (by decide +kernel) (by decide +kernel) post
  exact ⟨n, r, σ', run, alt_i (C := tC95) rfl a, L'⟩
theorem cs_off {a b : Int32} (L : LI b0 j x t qo qa bA A σ) (hb : 0 ≤ b.toInt ∧ b.toInt ≤ 1) : wp 92 0 (lv_args 0 [.ref x, .int a, .int b]) [] σ (fun r σ' => (∃ w : Int32, r = some (.int w)) ∧ LI b0 j x t qo qa bA A σ') := by
  obtain ⟨Z, T, v⟩ := L
  obtain ⟨n, r, σ', run, post⟩ := tV105 Z σ [.ref x, .int a, .int b] T.1.1 T.1.2.1 (ent_gen ⟨okx T.2.1.1 T.2.1.2, okA.any a, okA.mkI (lo := 0) (hi := 1) hb.1 hb.2, trivial⟩ (fun c hc => by cases hc) (by decide)) (fun h => absurd rfl h)
  obtain ⟨L', Z', a⟩ := LI.cls T v (by decide +kernel) (by decide +kernel) post
  exact ⟨n, r, σ', run, alt_i (C := tC105) rfl a, L'⟩
theorem cs_claim {a : Int32} (L : LI b0 j x t qo qa bA A σ) : wp 93 0 (lv_args 0 [.ref x, .int a]) [] σ (fun r σ' => (∃ w : Int32, r = some (.int w)) ∧ LI b0 j x t qo qa bA A σ') := by
  obtain ⟨Z, T, v⟩ := L
  obtain ⟨n, r, σ', run, post⟩ := tV106 Z σ [.ref x, .int a] T.1.1 T.1.2.1 (ent_gen ⟨okx T.2.1.1 T.2.1.2, okA.any a, trivial⟩ (fun c hc => by cases hc) (by decide)) (fun h => absurd rfl h)
  obtain ⟨L', Z', a⟩ := LI.cls T v (by decide +kernel) (by decide +kernel) post
  exact ⟨n, r, σ', run, alt_i (C := tC106) rfl a, L'⟩
theorem cs_service {a b : Int32} (L : LI b0 j x t qo qa bA A σ) : wp 94 0 (lv_args 0 [.ref x, .int a, .int b]) [] σ (fun r σ' => (∃ w : Int32, r = some (.int w)) ∧ LI b0 j x t qo qa bA A σ') := by
  obtain ⟨Z, T, v⟩ := L
  obtain ⟨n, r, σ', run, post⟩ := tV107 Z σ [.ref x, .int a, .int b] T.1.1 T.1.2.1 (ent_gen ⟨okx T.2.1.1 T.2.1.2, okA.any a, okA.any b, trivial⟩ (fun c hc => by cases hc) (by decide)) (fun h => absurd rfl h)
  obtain ⟨L', Z', a⟩ := LI.cls T v (by decide +kernel) (by decide +kernel) post
  exact ⟨n, r, σ', run, alt_i (C := tC107) rfl a, L'⟩
theorem cs_ask {a b : Int32} (L : LI b0 j x t qo qa bA A σ) : wp 95 0 (lv_args 0 [.ref x, .int a, .int b]) [] σ (fun r σ' => (∃ w : Int32, r = some (.int w)) ∧ LI b0 j x t qo qa bA A σ') := by
  obtain ⟨Z, T, v⟩ := L
  obtain ⟨n, r, σ', run, post⟩ := tV108 Z σ [.ref x, .int a, .int b] T.1.1 T.1.2.1 (ent_gen ⟨okx T.2.1.1 T.2.1.2, okA.any a, okA.any b, trivial⟩ (fun c hc => by cases hc) (by decide)) (fun h => absurd rfl h)
  obtain ⟨L', Z', a⟩ := LI.cls T v (by decide +kernel) (by decide +kernel) post
  exact ⟨n, r, σ', run, alt_i (C := tC108) rfl a, L'⟩
theorem cs_close {a b : Int32} (L : LI b0 j x t qo qa bA A σ) : wp 96 0 (lv_args 0 [.ref x, .int a, .int b]) [] σ (fun r σ' => (∃ w : Int32, r = some (.int w)) ∧ LI b0 j x t qo qa bA A σ') := by
  obtain ⟨Z, T, v⟩ := L
  obtain ⟨n, r, σ', run, post⟩ := tV109 Z σ [.ref x, .int a, .int b] T.1.1 T.1.2.1 (ent_gen ⟨okx T.2.1.1 T.2.1.2, okA.any a, okA.any b, trivial⟩ (fun c hc => by cases hc) (by decide)) (fun h => absurd rfl h)
  obtain ⟨L', Z', a⟩ := LI.cls T v (by decide +kernel) (by decide +kernel) post
  exact ⟨n, r, σ', run, alt_i (C := tC109) rfl a, L'⟩
theorem cs_split {a : Int32} (L : LI b0 j x t qo qa bA A σ) : wp 102 0 (lv_args 0 [.ref x, .int a]) [] σ (fun r σ' => (r = none) ∧ LI b0 j x t qo qa bA A σ') := by
  obtain ⟨Z, T, v⟩ := L
  obtain ⟨n, r, σ', run, post⟩ := tV128 Z σ [.ref x, .int a] T.1.1 T.1.2.1 (ent_gen ⟨okx T.2.1.1 T.2.1.2, okA.any a, trivial⟩ (fun c hc => by cases hc) (by decide)) (fun h => absurd rfl h)
  obtain ⟨L', Z', a⟩ := LI.cls T v (by decide +kernel) (by decide +kernel) post
  exact ⟨n, r, σ', run, alt_v (C := tC128) rfl a, L'⟩
theorem cs_join (L : LI b0 j x t qo qa bA A σ) : wp 103 0 (lv_args 0 [.ref x]) [] σ (fun r σ' => (r = none) ∧ LI b0 j x t qo qa bA A σ') := by
  obtain ⟨Z, T, v⟩ := L
  obtain ⟨n, r, σ', run, post⟩ := tV129 Z σ [.ref x] T.1.1 T.1.2.1 (ent_gen ⟨okx T.2.1.1 T.2.1.2, trivial⟩ (fun c hc => by cases hc) (by decide)) (fun h => absurd rfl h)
  obtain ⟨L', Z', a⟩ := LI.cls T v (by decide +kernel) (by decide +kernel) post
  exact ⟨n, r, σ', run, alt_v (C := tC129) rfl a, L'⟩
theorem cs_lose {a b : Int32} (L : LI b0 j x t qo qa bA A σ) : wp 97 0 (lv_args 0 [.ref x, .int a, .int b]) [] σ (fun r σ' => (∃ w : Int32, r = some (.int w)) ∧ LI b0 j x t qo qa bA A σ') := by
  obtain ⟨Z, T, v⟩ := L
  obtain ⟨n, r, σ', run, post⟩ := tV110 Z σ [.ref x, .int a, .int b] T.1.1 T.1.2.1 (ent_gen ⟨okx T.2.1.1 T.2.1.2, okA.any a, okA.any b, trivial⟩ (fun c hc => by cases hc) (by decide)) (fun h => absurd rfl h)
  obtain ⟨L', Z', a⟩ := LI.cls T v (by decide +kernel) (by decide +kernel) post
  exact ⟨n, r, σ', run, alt_i (C := tC110) rfl a, L'⟩
theorem cs_give {a : Int32} (L : LI b0 j x t qo qa bA A σ) : wp 98 0 (lv_args 0 [.ref x, .int a]) [] σ (fun r σ' => (∃ w : Int32, r = some (.int w)) ∧ LI b0 j x t qo qa bA A σ') := by
  obtain ⟨Z, T, v⟩ := L
  obtain ⟨n, r, σ', run, post⟩ := tV120 Z σ [.ref x, .int a] T.1.1 T.1.2.1 (ent_gen ⟨okx T.2.1.1 T.2.1.2, okA.any a, trivial⟩ (fun c hc => by cases hc) (by decide)) (fun h => absurd rfl h)
  obtain ⟨L', Z', a⟩ := LI.cls T v (by decide +kernel) (by decide +kernel) post
  exact ⟨n, r, σ', run, alt_i (C := tC120) rfl a, L'⟩
theorem cs_sign {a b : Int32} (L : LI b0 j x t qo qa bA A σ) : wp 128 0 (lv_args 0 [.ref x, .int a, .int b]) [] σ (fun r σ' => (∃ w : Int32, r = some (.int w)) ∧ LI b0 j x t qo qa bA A σ') := by
  obtain ⟨Z, T, v⟩ := L
  obtain ⟨n, r, σ', run, post⟩ := tV130 Z σ [.ref x, .int a, .int b] T.1.1 T.1.2.1 (ent_gen ⟨okx T.2.1.1 T.2.1.2, okA.any a, okA.any b, trivial⟩ (fun c hc => by cases hc) (by decide)) (fun h => absurd rfl h)
  obtain ⟨L', Z', a⟩ := LI.cls T v (by decide +kernel) (by decide +kernel) post
  exact ⟨n, r, σ', run, alt_i (C := tC130) rfl a, L'⟩
theorem cs_answers {a b : Int32} (L : LI b0 j x t qo qa bA A σ) : wp 129 0 (lv_args 0 [.ref x, .int a, .int b]) [] σ (fun r σ' => (∃ w : Int32, r = some (.int w)) ∧ LI b0 j x t qo qa bA A σ') := by
  obtain ⟨Z, T, v⟩ := L
  obtain ⟨n, r, σ', run, post⟩ := tV131 Z σ [.ref x, .int a, .int b] T.1.1 T.1.2.1 (ent_gen ⟨okx T.2.1.1 T.2.1.2, okA.any a, okA.any b, trivial⟩ (fun c hc => by cases hc) (by decide)) (fun h => absurd rfl h)
  obtain ⟨L', Z', a⟩ := LI.cls T v (by decide +kernel) (by decide +kernel) post
  exact ⟨n, r, σ', run, alt_i (C := tC131) rfl a, L'⟩
theorem cs_found {a b c d : Int32} (L : LI b0 j x t qo qa bA A σ) : wp 130 0 (lv_args 0 [.ref x, .int a, .int b, .int c, .int d]) [] σ (fun r σ' => (∃ w : Int32, r = some (.int w)) ∧ LI b0 j x t qo qa bA A σ') := by
  obtain ⟨Z, T, v⟩ := L
  obtain ⟨n, r, σ', run, post⟩ := tV132 Z σ [.ref x, .int a, .int b, .int c, .int d] T.1.1 T.1.2.1 (ent_gen ⟨okx T.2.1.1 T.2.1.2, okA.any a, okA.any b, okA.any c, okA.any d, trivial⟩ (fun c hc => by cases hc) (by decide)) (fun h => absurd rfl h)
  obtain ⟨L', Z', a⟩ := LI.cls T v (by decide +kernel) (by decide +kernel) post
  exact ⟨n, r, σ', run, alt_i (C := tC132) rfl a, L'⟩
theorem cs_entry {a b c : Int32} (L : LI b0 j x t qo qa bA A σ) : wp 131 0 (lv_args 0 [.ref x, .int a, .int b, .int c]) [] σ (fun r σ' => (∃ w : Int32, r = some (.int w)) ∧ LI b0 j x t qo qa bA A σ') := by
  obtain ⟨Z, T, v⟩ := L
  obtain ⟨n, r, σ', run, post⟩ := tV133 Z σ [.ref x, .int a, .int b, .int c] T.1.1 T.1.2.1 (ent_gen ⟨okx T.2.1.1 T.2.1.2, okA.any a, okA.any b, okA.any c, trivial⟩ (fun c hc => by cases hc) (by decide)) (fun h => absurd rfl h)
  obtain ⟨L', Z', a⟩ := LI.cls T v (by decide +kernel) (by decide +kernel) post
  exact ⟨n, r, σ', run, alt_i (C := tC133) rfl a, L'⟩
theorem cs_count {a : Int32} (L : LI b0 j x t qo qa bA A σ) : wp 132 0 (lv_args 0 [.ref x, .int a]) [] σ (fun r σ' => (∃ w : Int32, r = some (.int w)) ∧ LI b0 j x t qo qa bA A σ') := by
  obtain ⟨Z, T, v⟩ := L
  obtain ⟨n, r, σ', run, post⟩ := tV134 Z σ [.ref x, .int a] T.1.1 T.1.2.1 (ent_gen ⟨okx T.2.1.1 T.2.1.2, okA.any a, trivial⟩ (fun c hc => by cases hc) (by decide)) (fun h => absurd rfl h)
  obtain ⟨L', Z', a⟩ := LI.cls T v (by decide +kernel) (by decide +kernel) post
  exact ⟨n, r, σ', run, alt_i (C := tC134) rfl a, L'⟩
theorem cs_holders {a : Int32} (L : LI b0 j x t qo qa bA A σ) : wp 133 0 (lv_args 0 [.ref x, .int a]) [] σ (fun r σ' => (∃ w : Int32, r = some (.int w)) ∧ LI b0 j x t qo qa bA A σ') := by
  obtain ⟨Z, T, v⟩ := L
  obtain ⟨n, r, σ', run, post⟩ := tV135 Z σ [.ref x, .int a] T.1.1 T.1.2.1 (ent_gen ⟨okx T.2.1.1 T.2.1.2, okA.any a, trivial⟩ (fun c hc => by cases hc) (by decide)) (fun h => absurd rfl h)
  obtain ⟨L', Z', a⟩ := LI.cls T v (by decide +kernel) (by decide +kernel) post
  exact ⟨n, r, σ', run, alt_i (C := tC135) rfl a, L'⟩
theorem cs_sent {a : Int32} (L : LI b0 j x t qo qa bA A σ) : wp 134 0 (lv_args 0 [.ref x, .int a]) [] σ (fun r σ' => (∃ w : Int32, r = some (.int w)) ∧ LI b0 j x t qo qa bA A σ') := by
  obtain ⟨Z, T, v⟩ := L
  obtain ⟨n, r, σ', run, post⟩ := tV136 Z σ [.ref x, .int a] T.1.1 T.1.2.1 (ent_gen ⟨okx T.2.1.1 T.2.1.2, okA.any a, trivial⟩ (fun c hc => by cases hc) (by decide)) (fun h => absurd rfl h)
  obtain ⟨L', Z', a⟩ := LI.cls T v (by decide +kernel) (by decide +kernel) post
  exact ⟨n, r, σ', run, alt_i (C := tC136) rfl a, L'⟩
theorem rs_feed {a b c d e : Int32} (L : LI b0 j x t qo qa bA A σ) : wp 136 0 (lv_args 0 [.ref t, .int a, .int b, .int c, .int d, .int e]) [] σ (fun r σ' => (∃ w : Int32, r = some (.int w)) ∧ LI b0 (j + 1) x t qo qa bA A σ') := by
  obtain ⟨Z, T, v⟩ := L
  obtain ⟨n, r, σ', run, post⟩ := tV203 Z σ [.ref t, .int a, .int b, .int c, .int d, .int e] T.1.1 T.1.2.1 (ent_gen ⟨okx T.1.2.2.1 T.1.2.2.2.1, okA.any a, okA.any b, okA.any c, okA.any d, okA.any e, trivial⟩ (fun c hc => by cases hc) (by decide)) (fun h => absurd rfl h)
  obtain ⟨Z', T', f1, f2, ex, _, a⟩ := ts_ref T (by decide +kernel) post
  refine ⟨n, r, σ', run, alt_i (C := tC203) rfl a, LI.ref T v T' ex (Rok.fr (fun k i hk => ?_) (Zr.of fun q => f1 26 q (by decide) (by decide +kernel)) (Zr.of fun q => f1 32 q (by decide) (by decide +kernel)))⟩
  rcases hk with e | e | e | e | e | e <;> subst e
  · exact f2 0 i (by decide) (by decide +kernel)
  · exact f1 28 i (by decide) (by decide +kernel)
  · exact f1 39 i (by decide) (by decide +kernel)
  · exact f1 42 i (by decide) (by decide +kernel)
  · exact f2 46 i (by decide) (by decide +kernel)
  · exact f2 47 i (by decide) (by decide +kernel)
theorem rs_end {a : Int32} (L : LI b0 j x t qo qa bA A σ) : wp 137 0 (lv_args 0 [.ref t, .int a]) [] σ (fun r σ' => (∃ w : Int32, r = some (.int w)) ∧ LI b0 (j + 1) x t qo qa bA A σ') := by
  obtain ⟨Z, T, v⟩ := L
  obtain ⟨n, r, σ', run, post⟩ := tV202 Z σ [.ref t, .int a] T.1.1 T.1.2.1 (ent_gen ⟨okx T.1.2.2.1 T.1.2.2.2.1, okA.any a, trivial⟩ (fun c hc => by cases hc) (by decide)) (fun h => absurd rfl h)
  obtain ⟨Z', T', f1, f2, ex, _, a⟩ := ts_ref T (by decide +kernel) post
  refine ⟨n, r, σ', run, alt_i (C := tC202) rfl a, LI.ref T v T' ex (Rok.fr (fun k i hk => ?_) (Zr.of fun q => f1 26 q (by decide) (by decide +kernel)) (Zr.of fun q => f1 32 q (by decide) (by decide +kernel)))⟩
  rcases hk with e | e | e | e | e | e <;> subst e
  · exact f2 0 i (by decide) (by decide +kernel)
  · exact f1 28 i (by decide) (by decide +kernel)
  · exact f1 39 i (by decide) (by decide +kernel)
  · exact f1 42 i (by decide) (by decide +kernel)
  · exact f2 46 i (by decide) (by decide +kernel)
  · exact f2 47 i (by decide) (by decide +kernel)
theorem rs_claim {a : Int32} (L : LI b0 j x t qo qa bA A σ) : wp 183 0 (lv_args 0 [.ref t, .int a]) [] σ (fun r σ' => (∃ w : Int32, r = some (.int w)) ∧ LI b0 (j + 1) x t qo qa bA A σ') := by
  obtain ⟨Z, T, v⟩ := L
  obtain ⟨n, r, σ', run, post⟩ := tV279 Z σ [.ref t, .int a] T.1.1 T.1.2.1 (ent_gen ⟨okx T.1.2.2.1 T.1.2.2.2.1, okA.any a, trivial⟩ (fun c hc => by cases hc) (by decide)) (fun h => absurd rfl h)
  obtain ⟨Z', T', f1, f2, ex, _, a⟩ := ts_ref T (by decide +kernel) post
  refine ⟨n, r, σ', run, alt_i (C := tC279) rfl a, LI.ref T v T' ex (Rok.fr (fun k i hk => ?_) (Zr.of fun q => f1 26 q (by decide) (by decide +kernel)) (Zr.of fun q => f1 32 q (by decide) (by decide +kernel)))⟩
  rcases hk with e | e | e | e | e | e <;> subst e
  · exact f2 0 i (by decide) (by decide +kernel)
  · exact f1 28 i (by decide) (by decide +kernel)
  · exact f1 39 i (by decide) (by decide +kernel)
  · exact f1 42 i (by decide) (by decide +kernel)
  · exact f2 46 i (by decide) (by decide +kernel)
  · exact f2 47 i (by decide) (by decide +kernel)
theorem rs_service {a b : Int32} (L : LI b0 j x t qo qa bA A σ) : wp 184 0 (lv_args 0 [.ref t, .int a, .int b]) [] σ (fun r σ' => (∃ w : Int32, r = some (.int w)) ∧ LI b0 (j + 1) x t qo qa bA A σ') := by
  obtain ⟨Z, T, v⟩ := L
  obtain ⟨n, r, σ', run, post⟩ := tV280 Z σ [.ref t, .int a, .int b] T.1.1 T.1.2.1 (ent_gen ⟨okx T.1.2.2.1 T.1.2.2.2.1, okA.any a, okA.any b, trivial⟩ (fun c hc => by cases hc) (by decide)) (fun h => absurd rfl h)
  obtain ⟨Z', T', f1, f2, ex, _, a⟩ := ts_ref T (by decide +kernel) post
  refine ⟨n, r, σ', run, alt_i (C := tC280) rfl a, LI.ref T v T' ex (Rok.fr (fun k i hk => ?_) (Zr.of fun q => f1 26 q (by decide) (by decide +kernel)) (Zr.of fun q => f1 32 q (by decide) (by decide +kernel)))⟩
  rcases hk with e | e | e | e | e | e <;> subst e
  · exact f2 0 i (by decide) (by decide +kernel)
  · exact f1 28 i (by decide) (by decide +kernel)
  · exact f1 39 i (by decide) (by decide +kernel)
  · exact f1 42 i (by decide) (by decide +kernel)
  · exact f2 46 i (by decide) (by decide +kernel)
  · exact f2 47 i (by decide) (by decide +kernel)
theorem rs_split {a : Int32} (L : LI b0 j x t qo qa bA A σ) : wp 188 0 (lv_args 0 [.ref t, .int a]) [] σ (fun r σ' => (r = none) ∧ LI b0 (j + 1) x t qo qa bA A σ') := by
  obtain ⟨Z, T, v⟩ := L
  obtain ⟨n, r, σ', run, post⟩ := tV284 Z σ [.ref t, .int a] T.1.1 T.1.2.1 (ent_gen ⟨okx T.1.2.2.1 T.1.2.2.2.1, okA.any a, trivial⟩ (fun c hc => by cases hc) (by decide)) (fun h => absurd rfl h)
  obtain ⟨Z', T', f1, f2, ex, _, a⟩ := ts_ref T (by decide +kernel) post
  refine ⟨n, r, σ', run, alt_v (C := tC284) rfl a, LI.ref T v T' ex (Rok.fr (fun k i hk => ?_) (Zr.of fun q => f1 26 q (by decide) (by decide +kernel)) (Zr.of fun q => f1 32 q (by decide) (by decide +kernel)))⟩
  rcases hk with e | e | e | e | e | e <;> subst e
  · exact f2 0 i (by decide) (by decide +kernel)
  · exact f1 28 i (by decide) (by decide +kernel)
  · exact f1 39 i (by decide) (by decide +kernel)
  · exact f1 42 i (by decide) (by decide +kernel)
  · exact f2 46 i (by decide) (by decide +kernel)
  · exact f2 47 i (by decide) (by decide +kernel)
theorem rs_join (L : LI b0 j x t qo qa bA A σ) : wp 189 0 (lv_args 0 [.ref t]) [] σ (fun r σ' => (r = none) ∧ LI b0 (j + 1) x t qo qa bA A σ') := by
  obtain ⟨Z, T, v⟩ := L
  obtain ⟨n, r, σ', run, post⟩ := tV285 Z σ [.ref t] T.1.1 T.1.2.1 (ent_gen ⟨okx T.1.2.2.1 T.1.2.2.2.1, trivial⟩ (fun c hc => by cases hc) (by decide)) (fun h => absurd rfl h)
  obtain ⟨Z', T', f1, f2, ex, _, a⟩ := ts_ref T (by decide +kernel) post
  refine ⟨n, r, σ', run, alt_v (C := tC285) rfl a, LI.ref T v T' ex (Rok.fr (fun k i hk => ?_) (Zr.of fun q => f1 26 q (by decide) (by decide +kernel)) (Zr.of fun q => f1 32 q (by decide) (by decide +kernel)))⟩
  rcases hk with e | e | e | e | e | e <;> subst e
  · exact f2 0 i (by decide) (by decide +kernel)
  · exact f1 28 i (by decide) (by decide +kernel)
  · exact f1 39 i (by decide) (by decide +kernel)
  · exact f1 42 i (by decide) (by decide +kernel)
  · exact f2 46 i (by decide) (by decide +kernel)
  · exact f2 47 i (by decide) (by decide +kernel)
theorem rs_lose {a b : Int32} (L : LI b0 j x t qo qa bA A σ) : wp 190 0 (lv_args 0 [.ref t, .int a, .int b]) [] σ (fun r σ' => (∃ w : Int32, r = some (.int w)) ∧ LI b0 (j + 1) x t qo qa bA A σ') := by
  obtain ⟨Z, T, v⟩ := L
  obtain ⟨n, r, σ', run, post⟩ := tV286 Z σ [.ref t, .int a, .int b] T.1.1 T.1.2.1 (ent_gen ⟨okx T.1.2.2.1 T.1.2.2.2.1, okA.any a, okA.any b, trivial⟩ (fun c hc => by cases hc) (by decide)) (fun h => absurd rfl h)
  obtain ⟨Z', T', f1, f2, ex, _, a⟩ := ts_ref T (by decide +kernel) post
  refine ⟨n, r, σ', run, alt_i (C := tC286) rfl a, LI.ref T v T' ex (Rok.fr (fun k i hk => ?_) (Zr.of fun q => f1 26 q (by decide) (by decide +kernel)) (Zr.of fun q => f1 32 q (by decide) (by decide +kernel)))⟩
  rcases hk with e | e | e | e | e | e <;> subst e
  · exact f2 0 i (by decide) (by decide +kernel)
  · exact f1 28 i (by decide) (by decide +kernel)
  · exact f1 39 i (by decide) (by decide +kernel)
  · exact f1 42 i (by decide) (by decide +kernel)
  · exact f2 46 i (by decide) (by decide +kernel)
  · exact f2 47 i (by decide) (by decide +kernel)
theorem rs_look {a b : Int32} (L : LI b0 j x t qo qa bA A σ) : wp 193 0 (lv_args 0 [.ref t, .int a, .int b]) [] σ (fun r σ' => (∃ w : Int32, r = some (.int w)) ∧ LI b0 (j + 1) x t qo qa bA A σ') := by
  obtain ⟨Z, T, v⟩ := L
  obtain ⟨n, r, σ', run, post⟩ := tV288 Z σ [.ref t, .int a, .int b] T.1.1 T.1.2.1 (ent_gen ⟨okx T.1.2.2.1 T.1.2.2.2.1, okA.any a, okA.any b, trivial⟩ (fun c hc => by cases hc) (by decide)) (fun h => absurd rfl h)
  obtain ⟨Z', T', f1, f2, ex, _, a⟩ := ts_ref T (by decide +kernel) post
  refine ⟨n, r, σ', run, alt_i (C := tC288) rfl a, LI.ref T v T' ex (Rok.fr (fun k i hk => ?_) (Zr.of fun q => f1 26 q (by decide) (by decide +kernel)) (Zr.of fun q => f1 32 q (by decide) (by decide +kernel)))⟩
  rcases hk with e | e | e | e | e | e <;> subst e
  · exact f2 0 i (by decide) (by decide +kernel)
  · exact f1 28 i (by decide) (by decide +kernel)
  · exact f1 39 i (by decide) (by decide +kernel)
  · exact f1 42 i (by decide) (by decide +kernel)
  · exact f2 46 i (by decide) (by decide +kernel)
  · exact f2 47 i (by decide) (by decide +kernel)
theorem rs_sign {a b : Int32} (L : LI b0 j x t qo qa bA A σ) : wp 194 0 (lv_args 0 [.ref t, .int a, .int b]) [] σ (fun r σ' => (∃ w : Int32, r = some (.int w)) ∧ LI b0 (j + 1) x t qo qa bA A σ') := by
  obtain ⟨Z, T, v⟩ := L
  obtain ⟨n, r, σ', run, post⟩ := tV289 Z σ [.ref t, .int a, .int b] T.1.1 T.1.2.1 (ent_gen ⟨okx T.1.2.2.1 T.1.2.2.2.1, okA.any a, okA.any b, trivial⟩ (fun c hc => by cases hc) (by decide)) (fun h => absurd rfl h)
  obtain ⟨Z', T', f1, f2, ex, _, a⟩ := ts_ref T (by decide +kernel) post
  refine ⟨n, r, σ', run, alt_i (C := tC289) rfl a, LI.ref T v T' ex (Rok.fr (fun k i hk => ?_) (Zr.of fun q => f1 26 q (by decide) (by decide +kernel)) (Zr.of fun q => f1 32 q (by decide) (by decide +kernel)))⟩
  rcases hk with e | e | e | e | e | e <;> subst e
  · exact f2 0 i (by decide) (by decide +kernel)
  · exact f1 28 i (by decide) (by decide +kernel)
  · exact f1 39 i (by decide) (by decide +kernel)
  · exact f1 42 i (by decide) (by decide +kernel)
  · exact f2 46 i (by decide) (by decide +kernel)
  · exact f2 47 i (by decide) (by decide +kernel)
theorem rs_answers {a b : Int32} (L : LI b0 j x t qo qa bA A σ) : wp 196 0 (lv_args 0 [.ref t, .int a, .int b]) [] σ (fun r σ' => (∃ w : Int32, r = some (.int w)) ∧ LI b0 (j + 1) x t qo qa bA A σ') := by
  obtain ⟨Z, T, v⟩ := L
  obtain ⟨n, r, σ', run, post⟩ := tV409 Z σ [.ref t, .int a, .int b] T.1.1 T.1.2.1 (ent_gen ⟨okx T.1.2.2.1 T.1.2.2.2.1, okA.any a, okA.any b, trivial⟩ (fun c hc => by cases hc) (by decide)) (fun h => absurd rfl h)
  obtain ⟨Z', T', f1, f2, ex, _, a⟩ := ts_ref T (by decide +kernel) post
  refine ⟨n, r, σ', run, alt_i (C := tC409) rfl a, LI.ref T v T' ex (Rok.fr (fun k i hk => ?_) (Zr.of fun q => f1 26 q (by decide) (by decide +kernel)) (Zr.of fun q => f1 32 q (by decide) (by decide +kernel)))⟩
  rcases hk with e | e | e | e | e | e <;> subst e
  · exact f2 0 i (by decide) (by decide +kernel)
  · exact f1 28 i (by decide) (by decide +kernel)
  · exact f1 39 i (by decide) (by decide +kernel)
  · exact f1 42 i (by decide) (by decide +kernel)
  · exact f2 46 i (by decide) (by decide +kernel)
  · exact f2 47 i (by decide) (by decide +kernel)
theorem rs_found {a b c d : Int32} (L : LI b0 j x t qo qa bA A σ) : wp 197 0 (lv_args 0 [.ref t, .int a, .int b, .int c, .int d]) [] σ (fun r σ' => (∃ w : Int32, r = some (.int w)) ∧ LI b0 (j + 1) x t qo qa bA A σ') := by
  obtain ⟨Z, T, v⟩ := L
  obtain ⟨n, r, σ', run, post⟩ := tV291 Z σ [.ref t, .int a, .int b, .int c, .int d] T.1.1 T.1.2.1 (ent_gen ⟨okx T.1.2.2.1 T.1.2.2.2.1, okA.any a, okA.any b, okA.any c, okA.any d, trivial⟩ (fun c hc => by cases hc) (by decide)) (fun h => absurd rfl h)
  obtain ⟨Z', T', f1, f2, ex, _, a⟩ := ts_ref T (by decide +kernel) post
  refine ⟨n, r, σ', run, alt_i (C := tC291) rfl a, LI.ref T v T' ex (Rok.fr (fun k i hk => ?_) (Zr.of fun q => f1 26 q (by decide) (by decide +kernel)) (Zr.of fun q => f1 32 q (by decide) (by decide +kernel)))⟩
  rcases hk with e | e | e | e | e | e <;> subst e
  · exact f2 0 i (by decide) (by decide +kernel)
  · exact f1 28 i (by decide) (by decide +kernel)
  · exact f1 39 i (by decide) (by decide +kernel)
  · exact f1 42 i (by decide) (by decide +kernel)
  · exact f2 46 i (by decide) (by decide +kernel)
  · exact f2 47 i (by decide) (by decide +kernel)
theorem rs_entry {a b c : Int32} (L : LI b0 j x t qo qa bA A σ) : wp 198 0 (lv_args 0 [.ref t, .int a, .int b, .int c]) [] σ (fun r σ' => (∃ w : Int32, r = some (.int w)) ∧ LI b0 (j + 1) x t qo qa bA A σ') := by
  obtain ⟨Z, T, v⟩ := L
  obtain ⟨n, r, σ', run, post⟩ := tV292 Z σ [.ref t, .int a, .int b, .int c] T.1.1 T.1.2.1 (ent_gen ⟨okx T.1.2.2.1 T.1.2.2.2.1, okA.any a, okA.any b, okA.any c, trivial⟩ (fun c hc => by cases hc) (by decide)) (fun h => absurd rfl h)
  obtain ⟨Z', T', f1, f2, ex, _, a⟩ := ts_ref T (by decide +kernel) post
  refine ⟨n, r, σ', run, alt_i (C := tC292) rfl a, LI.ref T v T' ex (Rok.fr (fun k i hk => ?_) (Zr.of fun q => f1 26 q (by decide) (by decide +kernel)) (Zr.of fun q => f1 32 q (by decide) (by decide +kernel)))⟩
  rcases hk with e | e | e | e | e | e <;> subst e
  · exact f2 0 i (by decide) (by decide +kernel)
  · exact f1 28 i (by decide) (by decide +kernel)
  · exact f1 39 i (by decide) (by decide +kernel)
  · exact f1 42 i (by decide) (by decide +kernel)
  · exact f2 46 i (by decide) (by decide +kernel)
  · exact f2 47 i (by decide) (by decide +kernel)
theorem rs_count {a : Int32} (L : LI b0 j x t qo qa bA A σ) : wp 199 0 (lv_args 0 [.ref t, .int a]) [] σ (fun r σ' => (∃ w : Int32, r = some (.int w)) ∧ LI b0 (j + 1) x t qo qa bA A σ') := by
  obtain ⟨Z, T, v⟩ := L
  obtain ⟨n, r, σ', run, post⟩ := tV293 Z σ [.ref t, .int a] T.1.1 T.1.2.1 (ent_gen ⟨okx T.1.2.2.1 T.1.2.2.2.1, okA.any a, trivial⟩ (fun c hc => by cases hc) (by decide)) (fun h => absurd rfl h)
  obtain ⟨Z', T', f1, f2, ex, _, a⟩ := ts_ref T (by decide +kernel) post
  refine ⟨n, r, σ', run, alt_i (C := tC293) rfl a, LI.ref T v T' ex (Rok.fr (fun k i hk => ?_) (Zr.of fun q => f1 26 q (by decide) (by decide +kernel)) (Zr.of fun q => f1 32 q (by decide) (by decide +kernel)))⟩
  rcases hk with e | e | e | e | e | e <;> subst e
  · exact f2 0 i (by decide) (by decide +kernel)
  · exact f1 28 i (by decide) (by decide +kernel)
  · exact f1 39 i (by decide) (by decide +kernel)
  · exact f1 42 i (by decide) (by decide +kernel)
  · exact f2 46 i (by decide) (by decide +kernel)
  · exact f2 47 i (by decide) (by decide +kernel)
theorem rs_holders {a : Int32} (L : LI b0 j x t qo qa bA A σ) : wp 200 0 (lv_args 0 [.ref t, .int a]) [] σ (fun r σ' => (∃ w : Int32, r = some (.int w)) ∧ LI b0 (j + 1) x t qo qa bA A σ') := by
  obtain ⟨Z, T, v⟩ := L
  obtain ⟨n, r, σ', run, post⟩ := tV294 Z σ [.ref t, .int a] T.1.1 T.1.2.1 (ent_gen ⟨okx T.1.2.2.1 T.1.2.2.2.1, okA.any a, trivial⟩ (fun c hc => by cases hc) (by decide)) (fun h => absurd rfl h)
  obtain ⟨Z', T', f1, f2, ex, _, a⟩ := ts_ref T (by decide +kernel) post
  refine ⟨n, r, σ', run, alt_i (C := tC294) rfl a, LI.ref T v T' ex (Rok.fr (fun k i hk => ?_) (Zr.of fun q => f1 26 q (by decide) (by decide +kernel)) (Zr.of fun q => f1 32 q (by decide) (by decide +kernel)))⟩
  rcases hk with e | e | e | e | e | e <;> subst e
  · exact f2 0 i (by decide) (by decide +kernel)
  · exact f1 28 i (by decide) (by decide +kernel)
  · exact f1 39 i (by decide) (by decide +kernel)
  · exact f1 42 i (by decide) (by decide +kernel)
  · exact f2 46 i (by decide) (by decide +kernel)
  · exact f2 47 i (by decide) (by decide +kernel)
theorem rs_sent {a : Int32} (L : LI b0 j x t qo qa bA A σ) : wp 201 0 (lv_args 0 [.ref t, .int a]) [] σ (fun r σ' => (∃ w : Int32, r = some (.int w)) ∧ LI b0 (j + 1) x t qo qa bA A σ') := by
  obtain ⟨Z, T, v⟩ := L
  obtain ⟨n, r, σ', run, post⟩ := tV295 Z σ [.ref t, .int a] T.1.1 T.1.2.1 (ent_gen ⟨okx T.1.2.2.1 T.1.2.2.2.1, okA.any a, trivial⟩ (fun c hc => by cases hc) (by decide)) (fun h => absurd rfl h)
  obtain ⟨Z', T', f1, f2, ex, _, a⟩ := ts_ref T (by decide +kernel) post
  refine ⟨n, r, σ', run, alt_i (C := tC295) rfl a, LI.ref T v T' ex (Rok.fr (fun k i hk => ?_) (Zr.of fun q => f1 26 q (by decide) (by decide +kernel)) (Zr.of fun q => f1 32 q (by decide) (by decide +kernel)))⟩
  rcases hk with e | e | e | e | e | e <;> subst e
  · exact f2 0 i (by decide) (by decide +kernel)
  · exact f1 28 i (by decide) (by decide +kernel)
  · exact f1 39 i (by decide) (by decide +kernel)
  · exact f1 42 i (by decide) (by decide +kernel)
  · exact f2 46 i (by decide) (by decide +kernel)
  · exact f2 47 i (by decide) (by decide +kernel)
theorem rs_on {a b : Int32} (L : LI b0 j x t qo qa bA A σ) : wp 180 0 (lv_args 0 [.ref t, .int a, .int b]) [] σ (fun r σ' => (∃ w : Int32, r = some (.int w)) ∧ LI b0 (j + 1) x t qo qa bA A σ') := by
  obtain ⟨Z, T, v⟩ := L
  obtain ⟨n, r, σ', run, post⟩ := tV277 Z σ [.ref t, .int a, .int b] T.1.1 T.1.2.1 (ent_gen ⟨okx T.1.2.2.1 T.1.2.2.2.1, okA.any a, okA.any b, trivial⟩ (fun c hc => by cases hc) (by decide)) (fun h => absurd rfl h)
  obtain ⟨Z', T', f1, f2, ex, _, _⟩ := ts_ref T (by decide +kernel) post
  have run : prun n 180 0 (lv_args 0 [.ref t, .int a, .int b]) [] σ = some (r, σ') := run
  obtain ⟨w, ew, _, R⟩ := pc_on T.1.W run
  exact ⟨n, r, σ', run, ⟨w, ew⟩, LI.ref T v T' ex R⟩
theorem rs_ask {a b : Int32} (L : LI b0 j x t qo qa bA A σ) : wp 185 0 (lv_args 0 [.ref t, .int a, .int b]) [] σ (fun r σ' => (∃ w : Int32, r = some (.int w)) ∧ LI b0 (j + 1) x t qo qa bA A σ') := by
  obtain ⟨Z, T, v⟩ := L
  obtain ⟨n, r, σ', run, post⟩ := tV281 Z σ [.ref t, .int a, .int b] T.1.1 T.1.2.1 (ent_gen ⟨okx T.1.2.2.1 T.1.2.2.2.1, okA.any a, okA.any b, trivial⟩ (fun c hc => by cases hc) (by decide)) (fun h => absurd rfl h)
  obtain ⟨Z', T', f1, f2, ex, _, _⟩ := ts_ref T (by decide +kernel) post
  have run : prun n 185 0 (lv_args 0 [.ref t, .int a, .int b]) [] σ = some (r, σ') := run
  obtain ⟨w, ew, _, R⟩ := pc_ask T.1.W run
  exact ⟨n, r, σ', run, ⟨w, ew⟩, LI.ref T v T' ex R⟩
theorem rs_close {a b : Int32} (L : LI b0 j x t qo qa bA A σ) : wp 187 0 (lv_args 0 [.ref t, .int a, .int b]) [] σ (fun r σ' => (∃ w : Int32, r = some (.int w)) ∧ LI b0 (j + 1) x t qo qa bA A σ') := by
  obtain ⟨Z, T, v⟩ := L
  obtain ⟨n, r, σ', run, post⟩ := tV283 Z σ [.ref t, .int a, .int b] T.1.1 T.1.2.1 (ent_gen ⟨okx T.1.2.2.1 T.1.2.2.2.1, okA.any a, okA.any b, trivial⟩ (fun c hc => by cases hc) (by decide)) (fun h => absurd rfl h)
  obtain ⟨Z', T', f1, f2, ex, _, _⟩ := ts_ref T (by decide +kernel) post
  have run : prun n 187 0 (lv_args 0 [.ref t, .int a, .int b]) [] σ = some (r, σ') := run
  obtain ⟨w, ew, _, R⟩ := pc_close T.1.W run
  exact ⟨n, r, σ', run, ⟨w, ew⟩, LI.ref T v T' ex R⟩
theorem rs_off {a b : Int32} (hj : j ≤ 600) (hb : 0 ≤ b.toInt ∧ b.toInt ≤ 1) (L : LI b0 j x t qo qa bA A σ) : wp 182 0 (lv_args 0 [.ref t, .int a, .int b]) [] σ (fun r σ' => (∃ w : Int32, r = some (.int w)) ∧ LI b0 (j + 1) x t qo qa bA A σ') := by
  obtain ⟨Z, T, v⟩ := L
  obtain ⟨m1, m2⟩ := v.m T.1 hj
  obtain ⟨n, r, σ', run, post⟩ := tV278 Z σ [.ref t, .int a, .int b, .int (gI (vw t A σ) 47 0)] T.1.1 T.1.2.1 (ent_gen ⟨okx T.1.2.2.1 T.1.2.2.2.1, okA.any a, okA.mkI (lo := 0) (hi := 1) hb.1 hb.2, okA.wide m1.1 m1.2, trivial⟩ (fun c hc => by
    have hc : c ∈ [(0, 0, 47, 3)] := hc
    rw [List.mem_singleton] at hc
    subst hc
    exact ch47 T.1 rfl rfl) (by decide)) (fun h => absurd rfl h)
  obtain ⟨Z', T', f1, f2, ex, _, a⟩ := ts_ref T (by decide +kernel) post
  have run : prun n 182 0 (lv_args 0 [.ref t, .int _, .int b]) [] σ = some (r, σ') := run
  obtain ⟨w, ew, _, R⟩ := pc_off T.1.W run T.1.at m1 m2
  exact ⟨n, r, σ', run, ⟨w, ew⟩, LI.ref T v T' ex R⟩
theorem rs_give {a : Int32} (hj : j ≤ 600) (L : LI b0 j x t qo qa bA A σ) : wp 191 0 (lv_args 0 [.ref t, .int a]) [] σ (fun r σ' => (∃ w : Int32, r = some (.int w)) ∧ LI b0 (j + 1) x t qo qa bA A σ') := by
  obtain ⟨Z, T, v⟩ := L
  obtain ⟨m1, m2⟩ := v.m T.1 hj
  have W := T.1
  obtain ⟨n, r, σ', run, post⟩ := gv_ok (vs := [.ref t, .int a, .int (gI (vw t A σ) 47 0)]) T.1.1 T.1.2.1 (ent_gen ⟨okx T.1.2.2.1 T.1.2.2.2.1, okA.any a, okA.wide m1.1 m1.2, trivial⟩ (fun c hc => by
    have hc : c ∈ [(0, 0, 47, 2)] := hc
    rw [List.mem_singleton] at hc
    subst hc
    exact ch47 T.1 rfl rfl) (by decide)) T.1.2.2.2.2.2.2
  obtain ⟨Z', T', f1, f2, ex, _, _⟩ := ts_ref T (by decide +kernel) post
  have run : prun n 191 0 (lv_args 0 [.ref t, .int a]) [] σ = some (r, σ') := run
  have ty := W.ty1
  have tY : ∀ g : Nat, g < 8 → (0 ≤ (gI (vw t A σ) 31 g).toInt ∧ (gI (vw t A σ) 31 g).toInt ≤ 4) ∧ (0 ≤ (gI (vw t A σ) 32 g).toInt ∧ (gI (vw t A σ) 32 g).toInt ≤ 24) ∧ (0 ≤ (gI (vw t A σ) 20 (16 * g)).toInt ∧ (gI (vw t A σ) 20 (16 * g)).toInt ≤ 15) ∧ (gI (vw t A σ) 16 g).toInt ≤ 3 := fun g hg => by
    have hw := (W.ri (j := 20) (i := 16 * g) (by decide) (by decide) (by show ((16 * g : Nat) : Int) < 128; omega)).2
    rw [show fty (40 + 20) (16 * g) = aI 0 15 from fty_w (by decide) (by decide)] at hw
    exact ⟨(ty g hg).1, (ty g hg).2.1, hw, (W.ri (j := 16) (i := g) (by decide) (by decide) (by show (g : Int) < 8; omega)).2.2⟩
  obtain ⟨w, ew, _, R⟩ := pc_give W.W run W.at m1 m2 tY (fun q hq => (W.ri (j := 1) (i := q) (by decide) (by decide) (by show (q : Int) < 200; omega)).2) W.pb (W.fi (j := 2) (i := 0) (by decide)).2.2
  exact ⟨n, r, σ', run, ⟨w, ew⟩, LI.ref T v T' ex R⟩
/-- behind the class's go -/
def LG (b0 j x t qo qa bA : Nat) (A : Nat → Nat) (m w : Int32) (σ : ps) : Prop := ∃ Z, Tq b0 j x t qo qa bA A Z σ ∧ ∃ T T1 : Int64, sV σ x 9 = .long T1 ∧ gL (vw t A σ) 0 0 = T ∧ (0 ≤ T.toInt ∧ T.toInt ≤ 20000 * (j : Int)) ∧ (QW (vw t A σ) ∧ EA (vw t A σ) ∧ rg w2 (vw t A σ) ≤ j) ∧ (((m.toInt < 0 ∨ 20000 < m.toInt) ∧ w.toInt = -1 ∧ T1 = T) ∨ ((0 ≤ m.toInt ∧ m.toInt ≤ 20000) ∧ w.toInt = T.toInt + m.toInt ∧ T1.toInt = T.toInt + m.toInt))
theorem cs_go {a : Int32} (hj : j ≤ 600) (L : LI b0 j x t qo qa bA A σ) : wp 101 0 (lv_args 0 [.ref x, .int a]) [] σ (fun r σ' => ∃ w : Int32, r = some (.int w) ∧ LG b0 j x t qo qa bA A a w σ') := by
  obtain ⟨Z, T, ⟨tm, c1, c2, c3, c4⟩, c5⟩ := L
  obtain ⟨n, r, σ', run, post⟩ := tV137 Z σ [.ref x, .int a] T.1.1 T.1.2.1 (ent_gen ⟨okx T.2.1.1 T.2.1.2, okA.any a, trivial⟩ (fun c hc => by cases hc) (by decide)) (fun h => absurd rfl h)
  obtain ⟨Z', T', e, _, _, _⟩ := ts_cls T (by decide +kernel) post
  have run : prun n 101 0 (lv_args 0 [.ref x, .int a]) [] σ = some (r, σ') := run
  have ra := n_rng a
  rcases pc_cgo T.1.2.1 run c1 with ⟨b1, b2, b3⟩ | ⟨b1, b2, b3⟩
  · have b3 : σ' = σ := b3
    refine ⟨n, r, σ', run, _, b2, Z', T', tm, tm, by rw [b3]; exact c1, by rw [e]; exact c2, ⟨c3, c4⟩, by rw [e]; exact c5, Or.inl ⟨b1, by decide, rfl⟩⟩
  · have s : (tm + a.toInt64).toInt = tm.toInt + a.toInt := by rw [lw_add (by rw [lw_i2l]; omega) (by rw [lw_i2l]; omega), lw_i2l]
    refine ⟨n, r, σ', run, _, b2, Z', T', tm, tm + a.toInt64, b3, by rw [e]; exact c2, ⟨c3, c4⟩, by rw [e]; exact c5, Or.inr ⟨b1, ?_, s⟩⟩
    rw [lw_l2i (by rw [s]; omega) (by rw [s]; omega), s]
theorem rs_go {a w : Int32} (hj : j ≤ 600) (L : LG b0 j x t qo qa bA A a w σ) : wp 167 0 (lv_args 0 [.ref t, .int a]) [] σ (fun r σ' => r = some (.int w) ∧ LI b0 (j + 1) x t qo qa bA A σ') := by
  obtain ⟨Z, T, tm, T1, c1, c2, c3, ⟨q, e, g⟩, c4⟩ := L
  have I : MsI (vw t A σ) := ⟨by rw [c2]; omega, q, e⟩
  have hD8 : sm (hD (vw t A σ)) 8 ≤ 16 := by
    have s : sm (hD (vw t A σ)) 8 ≤ sm (fun _ => 2) 8 := sm_le 8 fun i _ => hD_le2
    have : sm (fun _ => 2) 8 = 16 := by decide
    omega
  have hP : P2 (vw t A σ) ≤ 790 := by unfold P2; omega
  obtain ⟨n, r, σ', run, w', Z', er, ⟨W', zz, S, K, I'⟩, D⟩ := go_ok (n := a) T.1 I hP (by rw [c2]; omega)
  obtain ⟨T', ex⟩ := T.sp W' zz S
  have ew : w' = w := by
    refine Int32.toInt_inj.mp ?_
    rcases D with ⟨d1, d2, _⟩ | ⟨d1, _, _, d2⟩
    · rcases c4 with ⟨_, c5, _⟩ | ⟨c5, _⟩
      · omega
      · omega
    · rw [c2] at d2
      rcases c4 with ⟨c5, _⟩ | ⟨_, c5, _⟩
      · omega
      · omega
  obtain ⟨a1, a2, a3, a4, a5⟩ := T'
  refine ⟨n, r, σ', run, by rw [er, ew], Z', ⟨a1, a2, a3, a4.up (by omega), a5⟩, ⟨T1, by rw [ex]; exact c1, ?_, ?_⟩, I'.2.1, I'.2.2, ?_⟩
  · refine Int64.toInt_inj.mp ?_
    rcases D with ⟨d1, _, d2⟩ | ⟨d1, _, d2, _⟩
    · rcases c4 with ⟨_, _, c5⟩ | ⟨c5, _⟩
      · rw [d2, gL_ne (by decide), c2, c5]
      · omega
    · rcases c4 with ⟨c5, _⟩ | ⟨_, _, c5⟩
      · omega
      · rw [d2, c2, c5]
  · rcases c4 with ⟨_, _, c5⟩ | ⟨c5, _, c6⟩
    · rw [c5]; omega
    · omega
  · rcases D with ⟨_, _, d2⟩ | ⟨_, d2, _⟩
    · rw [d2, show rg w2 (up (vw t A σ) 3 0 (.int 0)) = rg w2 (vw t A σ) from rfl]; omega
    · have e : rg w2 (vw t A σ') = 0 := by unfold rg; rw [d2]; rfl
      omega
end
