theorem ckA_2 : ckA2 = true := by decide +kernel
theorem ck82 (a : Nat) (h1 : 3 ≤ a) (h2 : a ≤ 18) : arun skC2 skX2 (36, skH2 a (8 : Nat), 10) [] [36, 155, 167] 69 36 (skH2 a (8 : Nat)) = true := by
  have ha : a = 3 ∨ a = 4 ∨ a = 5 ∨ a = 6 ∨ a = 7 ∨ a = 8 ∨ a = 9 ∨ a = 10 ∨ a = 11 ∨ a = 12 ∨ a = 13 ∨ a = 14 ∨ a = 15 ∨ a = 16 ∨ a = 17 ∨ a = 18 := by omega
  rcases ha with rfl | rfl | rfl | rfl | rfl | rfl | rfl | rfl | rfl | rfl | rfl | rfl | rfl | rfl | rfl | rfl
  · exact ck82_3
  · exact ck82_4
  · exact ck82_5
  · exact ck82_6
  · exact ck82_7
  · exact ck82_8
  · exact ck82_9
  · exact ck82_10
  · exact ck82_11
  · exact ck82_12
  · exact ck82_13
  · exact ck82_14
  · exact ck82_15
  · exact ck82_16
  · exact ck82_17
  · exact ck82_18
theorem ckAll2 (a : Int) (h1 : 3 ≤ a) (h2 : a ≤ 18) : ckN2 a = true ∧ (ck02 a = true ∧ (ck62 a = true ∧ ck12 a 0 = true)) := by
  have ha : a = 3 ∨ a = 4 ∨ a = 5 ∨ a = 6 ∨ a = 7 ∨ a = 8 ∨ a = 9 ∨ a = 10 ∨ a = 11 ∨ a = 12 ∨ a = 13 ∨ a = 14 ∨ a = 15 ∨ a = 16 ∨ a = 17 ∨ a = 18 := by omega
  rcases ha with rfl | rfl | rfl | rfl | rfl | rfl | rfl | rfl | rfl | rfl | rfl | rfl | rfl | rfl | rfl | rfl
  · exact ⟨ckN2_3, ck02_3, ck62_3, ck12_3⟩
  · exact ⟨ckN2_4, ck02_4, ck62_4, ck12_4⟩
  · exact ⟨ckN2_5, ck02_5, ck62_5, ck12_5⟩
  · exact ⟨ckN2_6, ck02_6, ck62_6, ck12_6⟩
  · exact ⟨ckN2_7, ck02_7, ck62_7, ck12_7⟩
  · exact ⟨ckN2_8, ck02_8, ck62_8, ck12_8⟩
  · exact ⟨ckN2_9, ck02_9, ck62_9, ck12_9⟩
  · exact ⟨ckN2_10, ck02_10, ck62_10, ck12_10⟩
  · exact ⟨ckN2_11, ck02_11, ck62_11, ck12_11⟩
  · exact ⟨ckN2_12, ck02_12, ck62_12, ck12_12⟩
  · exact ⟨ckN2_13, ck02_13, ck62_13, ck12_13⟩
  · exact ⟨ckN2_14, ck02_14, ck62_14, ck12_14⟩
  · exact ⟨ckN2_15, ck02_15, ck62_15, ck12_15⟩
  · exact ⟨ckN2_16, ck02_16, ck62_16, ck12_16⟩
  · exact ⟨ckN2_17, ck02_17, ck62_17, ck12_17⟩
  · exact ⟨ckN2_18, ck02_18, ck62_18, ck12_18⟩
theorem skV2 : Valid skX2 := by
  intro Z0 σ0 vs hT hL hE hJ
  have hlen : vs.length = (cEnv skX2).length := hE.1
  have hv : VA skC2 := (VA_cons tV237 (VA_cons tV238 (VA_cons tV244 (VA_cons tV205 (VA_cons tV247 (VA_cons tV245 (VA_cons tV239 VA_nil)))))))
  have RP : RetP skX2 Z0 σ0 vs (Post skX2 Z0 σ0 vs) := ret_ok hlen
  have KH : ∀ a : Nat, 3 ≤ a → a ≤ 18 → ∀ d n : Nat, n + d = 8 → NOK skX2 Z0 σ0 vs (Post skX2 Z0 σ0 vs) (36, skH2 a n, 10) := by
    intro a a1 a2 d
    obtain ⟨q0, _, _, q3⟩ := ckAll2 a (by omega) (by omega)
    have qn : ∀ n : Nat, 1 ≤ n → n ≤ 8 → ck12 a n = true ∧ ck22 a n = true ∧ ck32 a n = true ∧ ck42 a n = true ∧ ck52 a n = true := by
      intro n n1 n2
      have hm : ((n : Nat) : Int) ∈ ([1, 2, 3, 4, 5, 6, 7, 8] : List Int) := by
        have : n = 1 ∨ n = 2 ∨ n = 3 ∨ n = 4 ∨ n = 5 ∨ n = 6 ∨ n = 7 ∨ n = 8 := by omega
        rcases this with rfl | rfl | rfl | rfl | rfl | rfl | rfl | rfl <;> decide
      have := List.all_eq_true.mp q0 _ hm
      obtain ⟨p1, this⟩ := kN this
      obtain ⟨p2, this⟩ := kN this
      obtain ⟨p3, this⟩ := kN this
      obtain ⟨p4, p5⟩ := kN this
      exact ⟨p1, p2, p3, p4, p5⟩
    have q1 : ∀ n : Nat, n ≤ 8 → ck12 a n = true := by
      intro n n2
      by_cases e : n = 0
      · subst e; exact q3
      · exact (qn n (by omega) n2).1
    -- keeping the count
    have keep : ∀ (α : AS) (so : Nat) (v : Nat) (mi : Nat), (eg α 0).1.1 = 2 → (eg α 0).1.2.1 = 13 → (0, 0, 52, 7) ∈ α.2.2.2.1 → (0, 0, 53, so) ∈ α.2.2.2.1 → (7, 0, (a : Int), v) ∈ α.2.2.2.1 → (eg α so).1.1 = 0 → (a : Int) < (eg α so).1.2.1 →
        (∀ (t : Nat) (A : Nat → Nat) (Z : Nat → Prop) (ρ : Nat → Value) (lv : LV) (st : List Value) (σ σ' : ps) (m : Nat) (r : Option Value), A = rowsA σ t → Wld t A σ → ρ 0 = .ref t → Inv skX2 (rwOf skX2 vs) Z0 σ0 vs Z ρ α lv st σ → prun m mi 0 (lv_args 0 (st.take (np mi)).reverse) [] σ = some (r, σ') → ∀ q : Nat, ¬ (gI (vw t A σ) 53 0).toInt ≤ (q : Int) → vw t A σ' 52 q = vw t A σ 52 q) →
        ∀ (Z : Nat → Prop) (ρ : Nat → Value) (lv : LV) (st : List Value) (σ σ' : ps) (m : Nat) (r : Option Value), Inv skX2 (rwOf skX2 vs) Z0 σ0 vs Z ρ α lv st σ → prun m mi 0 (lv_args 0 (st.take (np mi)).reverse) [] σ = some (r, σ') → chOK ρ σ' (7, 0, (a : Int), v) := by
      intro α so v mi h1 h2 c52 c53 cv hso hlo F Z ρ lv st σ σ' m r I hr
      obtain ⟨t, s, et, W, e7, es, s1, s2, kt, zt⟩ := out_wd I h1 h2 c52 c53 hso
      have f := F t _ Z ρ lv st σ σ' m r rfl W et I hr a (by rw [es]; omega)
      have o : sV σ (rowsA σ t 52) a = ρ v := ch_fl (i := 7) (j := a) (I.1.2.2.2.1 _ cv) e7
      refine Or.inr ⟨rowsA σ t 52, e7, Or.inl ⟨rfl, ?_⟩⟩
      have f : sV σ' (rowsA σ t 52) a = sV σ (rowsA σ t 52) a := by
        unfold vw at f
        rw [if_pos (by decide), if_pos (by decide)] at f
        exact f
      show sV σ' (rowsA σ t 52) ((a : Int)).toNat = ρ v
      rw [show ((a : Int)).toNat = a by omega, f, o]
    induction d with
    | zero =>
      intro n hn
      have hn : n = 8 := by omega
      subst hn
      refine node_ok hv hlen RP (rest := []) (fun t ht => by cases ht) ?_ (ms := [36, 155, 167]) (fuel := 69)
      exact ck82 a (by omega) (by omega)
    | succ d ih =>
      intro n hn
      have K1 := ih (n + 1) (by omega)
      obtain ⟨_, p2, p3, p4, p5⟩ := qn (n + 1) (by omega) (by omega)
      have KD : NOK skX2 Z0 σ0 vs (Post skX2 Z0 σ0 vs) (170, skF2 a (n + 1 : Nat) (a + 1 + 18 * (n + 1 : Nat)), 0) := node_ok hv hlen RP (fun t ht => by rw [List.mem_singleton] at ht; subst ht; exact K1) p5
      obtain ⟨p4w, p4⟩ := kN p4
      have KN : NOK skX2 Z0 σ0 vs (Post skX2 Z0 σ0 vs) (167, skN2 a (n + 1 : Nat), 0) := by
        refine call_keep hv hlen (q := (36, 170, 145, 0, [3])) (c := (7, 0, (a : Int), 14)) (by decide +kernel) rfl p4w (by show 7 < 15; decide) (by show 14 < 15; decide) rfl p4 ?_ KD
        refine keep (skN2 a (n + 1 : Nat)) 12 14 145 rfl rfl (by simp [skN2]) (by simp [skN2]) (by simp [skN2]) rfl (by show (a : Int) < (a : Int) + 1; omega) ?_
        intro t A Z ρ lv st σ σ' m r eA W et I hr q hq
        rw [np145, I.1.stk (l := [10, 11, 0]) rfl] at hr
        obtain ⟨v, ev, _⟩ := I.1.int (i := 11) rfl
        obtain ⟨b, eb, b1, b2, _⟩ := I.1.int (i := 10) rfl
        have hr : prun m 145 0 (lv_args 0 [ρ 0, ρ 11, ρ 10]) [] σ = some (r, σ') := hr
        rw [et, ev, eb] at hr
        have b1 : (2 : Int) ≤ b.toInt := b1
        have b2 : b.toInt ≤ (2 : Int) := b2
        obtain ⟨_, _, p, _⟩ := pc_put W hr ⟨by omega, by omega⟩
        exact p 52 q (by decide) (fun e => hq e.2)
      have KC : NOK skX2 Z0 σ0 vs (Post skX2 Z0 σ0 vs) (158, skF2 a (n + 1 : Nat) (a + 18 * (n + 1 : Nat) - 1), 0) := node_ok hv hlen RP (fun t ht => by rw [List.mem_singleton] at ht; subst ht; exact KN) p3
      obtain ⟨p2w, p2⟩ := kN p2
      have KM : NOK skX2 Z0 σ0 vs (Post skX2 Z0 σ0 vs) (155, skM2 a (n + 1 : Nat), 0) := by
        refine call_keep hv hlen (q := (36, 158, 146, 0, [3])) (c := (7, 0, (a : Int), 14)) (by decide +kernel) rfl p2w (by show 7 < 15; decide) (by show 14 < 15; decide) rfl p2 ?_ KC
        refine keep (skM2 a (n + 1 : Nat)) 12 14 146 rfl rfl (by simp [skM2]) (by simp [skM2]) (by simp [skM2]) rfl (by show (a : Int) < (a : Int) + 1; omega) ?_
        intro t A Z ρ lv st σ σ' m r eA W et I hr q hq
        rw [np146, I.1.stk (l := [10, 11, 0]) rfl] at hr
        obtain ⟨i, ei, _⟩ := I.1.int (i := 10) rfl
        have e11 : ρ 11 = .ref (A 41) := by
          rw [← ch_fl (i := 0) (j := 41) (I.1.2.2.2.1 (0, 0, 41, 11) (by simp [skM2])) et]
          exact (W.2.2.1 41 (by decide)).1
        have hr : prun m 146 0 (lv_args 0 [ρ 0, ρ 11, ρ 10]) [] σ = some (r, σ') := hr
        rw [et, e11, ei] at hr
        obtain ⟨_, _, p, _⟩ := pc_putWord W hr (by decide)
        exact p 52 q (by decide) (by decide) (by decide) (by decide) (fun e => hq e.2)
      refine node_ok hv hlen RP (fun t ht => ?_) (q1 n (by omega))
      rcases List.mem_cons.mp ht with rfl | ht
      · exact KM
      · rw [List.mem_singleton] at ht; subst ht; exact KN
  have KB : NOK skX2 Z0 σ0 vs (Post skX2 Z0 σ0 vs) (27, skB2, 0) := by
    intro Z ρ lv st σ I
    obtain ⟨av, ea, a1, a2, _⟩ := I.1.int (i := 8) rfl
    have a1 : (3 : Int) ≤ av.toInt := a1
    have a2 : av.toInt ≤ (18 : Int) := a2
    obtain ⟨a, hav⟩ : ∃ a : Nat, av.toInt = (a : Int) := ⟨av.toInt.toNat, by omega⟩
    obtain ⟨_, p0, p6, _⟩ := ckAll2 a (by omega) (by omega)
    obtain ⟨p0w, p0⟩ := kN p0
    have KG : NOK skX2 Z0 σ0 vs (Post skX2 Z0 σ0 vs) (30, skG2 a, 0) := node_ok hv hlen RP (fun t ht => by rw [List.mem_singleton] at ht; subst ht; exact KH a (by omega) (by omega) 8 0 rfl) p6
    have I1 := I.rsts (i := 8) (lo := a) (hi := a) rfl ea (by omega) (by omega)
    refine call_keep hv hlen (q := (36, 30, 145, 0, [3])) (c := (7, 0, (a : Int), 10)) (by decide +kernel) rfl p0w (by show 7 < 12; decide) (by show 10 < 12; decide) rfl p0 ?_ KG Z ρ lv st σ I1
    intro Z ρ lv st σ σ' m r I hr
    have h8 : (eg (rst skB2 8 a a) 8).1.1 = 0 := rst_tag rfl
    obtain ⟨t, s, et, W, e7, es, s1, s2, kt, zt⟩ := out_wd (so := 8) I rfl rfl (by show _ ∈ skB2.2.2.2.1; decide) (by show _ ∈ skB2.2.2.2.1; decide) h8
    have s1 : max (3 : Int) a ≤ s.toInt := s1
    have s2 : s.toInt ≤ min (18 : Int) a := s2
    have es2 : s.toInt = a := by omega
    have hr : prun m 145 0 (lv_args 0 (st.take (np 145)).reverse) [] σ = some (r, σ') := hr
    rw [np145, I.1.stk (l := [9, 10, 0]) rfl] at hr
    obtain ⟨v, ev, v1, v2, _⟩ := I.1.int (i := 10) rfl
    obtain ⟨b, eb, b1, b2, _⟩ := I.1.int (i := 9) rfl
    have v1 : (0 : Int) ≤ v.toInt := v1
    have v2 : v.toInt ≤ (0 : Int) := v2
    have b1 : (1 : Int) ≤ b.toInt := b1
    have b2 : b.toInt ≤ (1 : Int) := b2
    have hr : prun m 145 0 (lv_args 0 [ρ 0, ρ 10, ρ 9]) [] σ = some (r, σ') := hr
    rw [et, ev, eb] at hr
    obtain ⟨_, _, _, _, p⟩ := pc_put W hr ⟨by omega, by omega⟩
    have hv0 : v = 0 := Int32.toInt_inj.mp (by show v.toInt = 0; omega)
    rw [es, hv0, show (s.toInt + b.toInt - 1).toNat = a by omega] at p
    unfold vw at p
    rw [if_pos (by decide)] at p
    refine Or.inr ⟨rowsA σ t 52, e7, Or.inl ⟨rfl, ?_⟩⟩
    show sV σ' (rowsA σ t 52) ((a : Int)).toNat = ρ 10
    rw [show ((a : Int)).toNat = a by omega]
    refine Eq.trans p ?_
    rw [ev, hv0]
    rfl
  exact node_ok hv hlen RP (fun t ht => by rw [List.mem_singleton] at ht; subst ht; exact KB) ckA_2 Z0 _ _ _ σ0 (ent_ok (X := skX2) hT hL hE hJ)
/-- without the row out -/
theorem tV264 : Valid tC264 := by
  intro Z σ vs hT hL hE hJ
  have hl : vs.length = 7 := hE.1
  have e0 : vs[0]? = some vs[0] := List.getElem?_eq_getElem (by omega)
  obtain ⟨t, et, zt, kt⟩ := (hE.2.1 0 _ _ rfl e0).r rfl
  have kt : sK σ t = 13 := kt
  obtain ⟨r1, r2, r3, r4⟩ := rowsA_ok hT zt kt (j := 52) (by decide)
  have g0 : vs.getD 0 .null = .ref t := by rw [List.getD_eq_getElem?_getD, e0, et]; rfl
  have gg : ∀ i, i < 7 → (vs ++ [Value.ref (rowsA σ t 52)]).getD i .null = vs.getD i .null := by
    intro i hi
    rw [List.getD_eq_getElem?_getD, List.getD_eq_getElem?_getD, List.getElem?_append_left (by omega)]
  have E : EntOK skX2 Z σ (vs ++ [.ref (rowsA σ t 52)]) := by
    refine ⟨by rw [List.length_append, hl]; rfl, fun i t' v h1 h2 => ?_, fun c hc => ?_, fun i t' h1 h4 => ?_⟩
    · have hi : i < 8 := (List.getElem?_eq_some_iff.mp h1).1
      by_cases e : i < 7
      · rw [List.getElem?_append_left (by omega)] at h2
        refine hE.2.1 i t' v ?_ h2
        match i, e, h1 with
        | 0, _, h1 => exact h1
        | 1, _, h1 => exact h1
        | 2, _, h1 => exact h1
        | 3, _, h1 => exact h1
        | 4, _, h1 => exact h1
        | 5, _, h1 => exact h1
        | 6, _, h1 => exact h1
      · have e : i = 7 := by omega
        subst e
        rw [List.getElem?_append_right (by omega), hl] at h2
        cases h2
        cases h1
        exact Or.inr (Or.inr (Or.inl ⟨rfl, _, rfl, r2, r4⟩))
    · have hc : c ∈ [(0, 0, 47, 6), (0, 0, 52, 7)] := hc
      simp only [List.mem_cons, List.not_mem_nil, or_false] at hc
      rcases hc with rfl | rfl
      · have := hE.2.2.1 (0, 0, 47, 6) List.mem_cons_self
        have f := ch_fl (i := 0) (j := 47) this g0
        exact Or.inr ⟨t, by show (vs ++ _).getD 0 .null = _; rw [gg 0 (by omega)]; exact g0, Or.inl ⟨rfl, by show sV σ t 47 = (vs ++ _).getD 6 .null; rw [gg 6 (by omega)]; exact f⟩⟩
      · refine Or.inr ⟨t, by show (vs ++ _).getD 0 .null = _; rw [gg 0 (by omega)]; exact g0, Or.inl ⟨rfl, ?_⟩⟩
        show sV σ t 52 = (vs ++ [Value.ref (rowsA σ t 52)]).getD 7 .null
        rw [r1, List.getD_eq_getElem?_getD, List.getElem?_append_right (by omega), hl]
        rfl
    · have hi : i < 8 := (List.getElem?_eq_some_iff.mp h1).1
      match i, hi, h1 with
      | 0, _, h1 => cases h1; cases h4
      | 1, _, h1 => cases h1; cases h4
      | 2, _, h1 => cases h1; cases h4
      | 3, _, h1 => cases h1; cases h4
      | 4, _, h1 => cases h1; cases h4
      | 5, _, h1 => cases h1; cases h4
      | 6, _, h1 => cases h1; cases h4
      | 7, _, h1 => cases h1; cases h4
  have w := skV2 Z σ _ hT hL E (fun h => absurd rfl h)
  have e1 : np skX2.1 = 6 := by decide +kernel
  have e2 : np tC264.1 = 6 := by decide +kernel
  rw [e1, List.take_append_of_le_length (by omega)] at w
  rw [e2]
  refine wp_mono w (fun r σ' hr => ?_)
  obtain ⟨Z', b1, b2, b3, b4, alt, ha, b5⟩ := hr
  have hn : ∀ b, ¬ rwOf skX2 (vs ++ [.ref (rowsA σ t 52)]) b := by
    rintro b ⟨i, t', h1, h4, _⟩
    have hi : i < 8 := (List.getElem?_eq_some_iff.mp h1).1
    match i, hi, h1 with
    | 0, _, h1 => cases h1; cases h4
    | 1, _, h1 => cases h1; cases h4
    | 2, _, h1 => cases h1; cases h4
    | 3, _, h1 => cases h1; cases h4
    | 4, _, h1 => cases h1; cases h4
    | 5, _, h1 => cases h1; cases h4
    | 6, _, h1 => cases h1; cases h4
    | 7, _, h1 => cases h1; cases h4
  have ha : alt ∈ cAlt skX2 := ha
  have e : alt = ([(2,13,0,0,0),(0,0,7,0,7),(0,(-2147483648),2147483647,0,15),(2,80,0,0,0),(0,0,3056,0,0),(0,0,1,0,1),(0,0,1000,0,15),(2,92,0,0,0)],[],[]) := by rw [show cAlt skX2 = [([(2,13,0,0,0),(0,0,7,0,7),(0,(-2147483648),2147483647,0,15),(2,80,0,0,0),(0,0,3056,0,0),(0,0,1,0,1),(0,0,1000,0,15),(2,92,0,0,0)],[],[])] from rfl, List.mem_singleton] at ha; exact ha
  subst e
  obtain ⟨d1, d2, d3, d4⟩ := b5
  refine ⟨Z', b1, b2, ⟨b3.1, b3.2.1, b3.2.2.1, fun a h1 h2 => ?_, b3.2.2.2.2⟩, b4, ([(2,13,0,0,0),(0,0,7,0,7),(0,(-2147483648),2147483647,0,15),(2,80,0,0,0),(0,0,3056,0,0),(0,0,1,0,1),(0,0,1000,0,15)],[],[]), List.mem_cons_self, by rw [hl]; rfl, fun i t' v h1 h2 => ?_, d3, fun p hp => by cases hp⟩
  · rcases b3.2.2.2.1 a h1 h2 with q | q
    · exact Or.inl q
    · exact absurd q (hn a)
  · have hi : i < 7 := (List.getElem?_eq_some_iff.mp h1).1
    refine d2 i t' v ?_ (by rw [List.getElem?_append_left (by omega)]; exact h2)
    match i, hi, h1 with
    | 0, _, h1 => exact h1
    | 1, _, h1 => exact h1
    | 2, _, h1 => exact h1
    | 3, _, h1 => exact h1
    | 4, _, h1 => exact h1
    | 5, _, h1 => exact h1
    | 6, _, h1 => exact h1
