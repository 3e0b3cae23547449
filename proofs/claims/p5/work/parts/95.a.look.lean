theorem gw0 : (Cond.initialized RL) ∈ xG := xin1 0 (by decide +kernel) (by decide +kernel)
theorem gw1569 : (Cond.methodLink RL 84 yX13_look) ∈ xG := xin7 129 (by decide +kernel) (by decide +kernel)
theorem gw21 : (Cond.classLink RL 8 RX12) ∈ xG := xin1 21 (by decide +kernel) (by decide +kernel)
theorem gw23 : (Cond.methodLink RL 17 yX12_init) ∈ xG := xin1 23 (by decide +kernel) (by decide +kernel)
theorem gw1115 : (Cond.classLink RL 18 RX13) ∈ xG := xin5 155 (by decide +kernel) (by decide +kernel)
theorem gw1117 : (Cond.methodLink RL 20 yX13_init) ∈ xG := xin5 157 (by decide +kernel) (by decide +kernel)
theorem gLlook : (Cond.codeWith yL_look cL_look 5 (some .int) [(0, 10, 13, 13), (0, 10, 17, 15)]) ∈ xG := xin5 57 (by decide +kernel) (by decide +kernel)
theorem gLlook1 : (Cond.methodLink RL 79 yL_look) ∈ xG := xin5 55 (by decide +kernel) (by decide +kernel)
theorem gLlook2 : (Cond.static yL_look) ∈ xG := xin5 56 (by decide +kernel) (by decide +kernel)
theorem xSW : GoodIn xG (va_wsS RL 79 yL_look (Cond.codeWith yL_look cL_look 5 (some .int) [(0, 10, 13, 13), (0, 10, 17, 15)] :: xG)) := by
  have h : ∀ w ∈ va_wsS RL 79 yL_look (Cond.codeWith yL_look cL_look 5 (some .int) [(0, 10, 13, 13), (0, 10, 17, 15)] :: xG), w ∈ xG := by
    intro w hw
    unfold va_wsS at hw
    rcases List.mem_append.mp hw with q | q
    · rcases List.mem_cons.mp q with e | q
      · exact e ▸ gLlook1
      · rcases List.mem_cons.mp q with e | q
        · exact e ▸ gLlook2
        · rcases List.mem_cons.mp q with e | q
          · exact e ▸ gw0
          · exact absurd q List.not_mem_nil
    · rcases List.mem_cons.mp q with e | q
      · exact e ▸ gLlook
      · exact q
  exact fun w hw => ⟨h w hw, xgood (h w hw)⟩
set_option maxHeartbeats 4000000 in
theorem x_startT {s : State} {args : Array Value} (hts : ∀ w ∈ lw_tbl, w.before args s = true) (hgv : (Jvm.Cond.and given_1 narrow_1).before args s = true) : ∃ a1 a2 : Nat, xKt (fun q : Nat => s.heap.size ≤ q) a1 a2 s := by
  have hs := flat_of_before _ hgv
  have e1 : (Cond.exactly (.string "CableNames" 459) "java/lang/String").before args s = true := hs _ (by decide +kernel)
  have e2 : (Cond.exactly (.string "CableNames" 466) "java/lang/String").before args s = true := hs _ (by decide +kernel)
  have e3 : (Cond.not (.castable xNS xIO)).before args s = true := hs _ (by decide +kernel)
  have e4 : (Cond.isRef (.static Bundle.tN "UNASSIGNED_STACK" Bundle.steD)).before args s = true := hs _ (by decide +kernel)
  have e5 : (Cond.isRef (.static Bundle.tN "SUPPRESSED_SENTINEL" Bundle.listD)).before args s = true := hs _ (by decide +kernel)
  have e6 : (Cond.initialized Bundle.tN).before args s = true := hts _ (List.mem_append_right _ (List.mem_of_getElem? (i := 16) (show tables_1[16]? = some (Cond.initialized Bundle.tN) by decide +kernel)))
  obtain ⟨a1, _, _, _, q1, -⟩ := Cond.exactly_spec (args := args) (first := s) (o := none) (s := s) (idx := []) (t := .string "CableNames" 459) (cls := "java/lang/String") e1
  obtain ⟨a2, _, _, _, q2, -⟩ := Cond.exactly_spec (args := args) (first := s) (o := none) (s := s) (idx := []) (t := .string "CableNames" 466) (cls := "java/lang/String") e2
  have hA : ∀ a : Nat, a < s.heap.size → ¬ (fun q : Nat => s.heap.size ≤ q) a := fun a h => Nat.not_le.mpr h
  exact ⟨a1, a2, ⟨va_Nw.of rfl (hts (.declares (Bundle.initS "java/lang/RuntimeException")) (List.mem_append_right _ (List.mem_of_getElem? (i := 1028) (show tables_1[1028]? = some (Cond.declares (Bundle.initS "java/lang/RuntimeException")) by decide +kernel)))), va_Nw.of rfl (hts (.declares (Bundle.initS "java/lang/Exception")) (List.mem_append_right _ (List.mem_of_getElem? (i := 1030) (show tables_1[1030]? = some (Cond.declares (Bundle.initS "java/lang/Exception")) by decide +kernel)))), va_Nw.of rfl (hts (.declares (Bundle.initS Bundle.tN)) (List.mem_append_right _ (List.mem_of_getElem? (i := 1032) (show tables_1[1032]? = some (Cond.declares (Bundle.initS Bundle.tN)) by decide +kernel))))⟩, ⟨va_Nw.of rfl (hts (.castable xIO xIO) (List.mem_append_right _ (List.mem_of_getElem? (i := 1026) (show tables_1[1026]? = some (Cond.castable xIO xIO) by decide +kernel)))), va_Nw.of rfl (hts (.castable xNS xNS) (List.mem_append_right _ (List.mem_of_getElem? (i := 1092) (show tables_1[1092]? = some (Cond.castable xNS xNS) by decide +kernel)))), va_Nc.of e3⟩, ⟨vk_R.of (hts (.stringRef RX12 459 "no such host") (List.mem_append_right _ (List.mem_of_getElem? (i := 1064) (show tables_1[1064]? = some (Cond.stringRef RX12 459 "no such host") by decide +kernel)))) q1, vk_R.of (hts (.stringRef RX12 466 "nothing such to look at") (List.mem_append_right _ (List.mem_of_getElem? (i := 1099) (show tables_1[1099]? = some (Cond.stringRef RX12 466 "nothing such to look at") by decide +kernel)))) q2⟩, vx_Zqof (hts (.laysStatic Bundle.tN "UNASSIGNED_STACK" Bundle.steD) (List.mem_append_right _ (List.mem_of_getElem? (i := 1051) (show tables_1[1051]? = some (Cond.laysStatic Bundle.tN "UNASSIGNED_STACK" Bundle.steD) by decide +kernel)))) e6 e4 hA, vx_Zqof (hts (.laysStatic Bundle.tN "SUPPRESSED_SENTINEL" Bundle.listD) (List.mem_append_right _ (List.mem_of_getElem? (i := 1053) (show tables_1[1053]? = some (Cond.laysStatic Bundle.tN "SUPPRESSED_SENTINEL" Bundle.listD) by decide +kernel)))) e6 e5 hA⟩
section
variable {b0 j x t qo qa bA : Nat} {A : Nat → Nat} {σ : ps}
theorem LI.cq (h : LI b0 j x t qo qa bA A σ) : qo ∈ sL σ ∧ sK σ qo = 38 := by
  obtain ⟨Z, T, _⟩ := h
  exact T.2.2.1
theorem LI.up {i : Nat} (h : LI b0 j x t qo qa bA A σ) (hi : j ≤ i) : LI b0 i x t qo qa bA A σ := by
  obtain ⟨Z, ⟨w, x1, q1, r, c⟩, ⟨⟨tm, c1, c2, c3, c4⟩, c5, c6, c7⟩, hc⟩ := h
  exact ⟨Z, ⟨w, x1, q1, r.up hi, c⟩, ⟨⟨tm, c1, c2, c3, by omega⟩, c5, c6, by omega⟩, hc⟩
theorem LI.grow {k : Nat} (L : LI b0 j x t qo qa bA A σ) (h1 : σ.1 ≤ k) (h2 : k ≤ σ.1 + 700) : LI (b0 + 700) j x t qo qa bA A (k, σ.2) := by
  obtain ⟨Z, ⟨⟨w1, w2, w3, w4, w5, w6, w7⟩, x1, q1, ⟨u, r1, r2⟩, c⟩, v⟩ := L
  refine ⟨Z, ⟨⟨w1, fun a ha => Nat.lt_of_lt_of_le (w2 a ha) h1, w3, w4, w5, w6, w7⟩, x1, q1, ⟨u, ?_, r2⟩, c⟩, v⟩
  show k + 3 * nq σ qa ≤ b0 + 700 + 5000 + 700 * j
  omega
theorem LI.put {w : Int64} (L : LI b0 j x t qo qa bA A σ) : LI b0 j x t qo qa bA A (sPut σ qo 0 (.long w)) := by
  obtain ⟨Z, ⟨⟨w1, w2, w3, w4, ⟨a1, a2, a3, a4, a5⟩, w6, w7⟩, ⟨x1, x2⟩, ⟨q1, q2⟩, ⟨u, r1, r2⟩, cA, cx, cq, ca⟩, v⟩ := L
  have nt : ¬ t = qo := fun e => by rw [e, q2] at w4; revert w4; decide
  have nx : ¬ x = qo := fun e => by rw [e, q2] at x2; revert x2; decide
  have na : ¬ qa = qo := fun e => by have := u.2.1; rw [e, q2] at this; revert this; decide
  have nA : ∀ k, ¬ A k = qo := fun k e => by
    cases hk : isRw k with
    | true => have := (a3 k hk).2; rw [e, q2] at this; omega
    | false => have := cA k hk; omega
  have et : sV (sPut σ qo 0 (.long w)) t = sV σ t := sPut_ne _ _ nt
  have eq : nq (sPut σ qo 0 (.long w)) qa = nq σ qa := by unfold nq; rw [sPut_ne _ _ na]
  have ev : vw t A (sPut σ qo 0 (.long w)) = vw t A σ := by
    funext k i
    unfold vw
    rw [sPut_ne _ _ (nA k), et]
  refine ⟨Z, ⟨⟨w1.put (fun _ => by rw [q2]; exact okA.lng w), w2, w3, w4, ⟨a1, a2, fun k hk => by rw [et]; exact a3 k hk, fun k hk => by rw [et]; exact a4 k hk, by rw [et]; exact a5⟩, w6, w7⟩, ⟨x1, x2⟩, ⟨q1, q2⟩, ⟨u, by rw [eq]; exact r1, by rw [eq]; exact r2⟩, cA, cx, cq, ca⟩, ?_, ?_⟩
  · unfold LV10
    rw [ev, sPut_ne _ _ nx]
    exact v.1
  · have nk : ∀ a, (sK σ a = 25 ∨ sK σ a = 3) → sV (sPut σ qo 0 (.long w)) a = sV σ a := fun a ka => sPut_ne _ _ (fun e => by rw [e, q2] at ka; omega)
    exact v.2.of (by rw [sPut_ne _ _ nx]) (fun a _ hk _ i => by rw [nk a (Or.inl hk)]) (fun a _ hk _ => by rw [nk a (Or.inr hk)]; exact ⟨rfl, rfl⟩) (fun a ha => ⟨ha, rfl⟩) (fun q => by rw [ev]; exact ⟨rfl, rfl⟩)
theorem LI.look {k : Nat} {u : ps} (L : LI b0 j x t qo qa bA A σ) (hu : u = σ ∨ ∃ v : Int64, u = sPut σ qo 0 (.long v)) (h1 : σ.1 ≤ k) (h2 : k ≤ σ.1 + 700) : LI (b0 + 700) j x t qo qa bA A (k, u.2) ∧ u.2.1 = σ.2.1 := by
  rcases hu with e | ⟨v, e⟩
  · subst e; exact ⟨L.grow h1 h2, rfl⟩
  · subst e; exact ⟨LI.grow (L.put (w := v)) h1 h2, rfl⟩
theorem LI.ref2 {σ' : ps} {Z Z' : Nat → Prop} {b1 : Nat} (hb : b0 ≤ b1 + 700) (T : Tq b0 j x t qo qa bA A Z σ) (v : LV10 j x t A σ) (T' : Tq b0 j x t qo qa bA A Z' σ') (ex : sV σ' x = sV σ x) (r : Rok (vw t A σ) (vw t A σ')) (hc : HC bA x t A σ') : LI b1 (j + 1) x t qo qa bA A σ' := by
  obtain ⟨⟨tm, c1, c2, c3, c4⟩, c5, c6, c7⟩ := v
  obtain ⟨q', e'⟩ := r.w c5 c6 T.1.ty1
  obtain ⟨a1, a2, a3, ⟨u1, u2, u3⟩, a5⟩ := T'
  refine ⟨Z', ⟨a1, a2, a3, ⟨u1, by omega, by omega⟩, a5⟩, ⟨⟨tm, by rw [ex]; exact c1, by rw [gL_of r.2.2.1]; exact c2, c3, by omega⟩, q', e', ?_⟩, hc⟩
  have := r.2.2.2
  omega
theorem rk_look {b1 : Nat} {a b : Int32} (hb : b0 ≤ b1 + 700) (L : LI b0 j x t qo qa bA A σ) : wp 193 0 (lv_args 0 [.ref t, .int a, .int b]) [] σ (fun r σ' => (∃ w : Int32, r = some (.int w)) ∧ LI b1 (j + 1) x t qo qa bA A σ') := by
  obtain ⟨Z, T, v⟩ := L
  obtain ⟨n, r, σ', run, post⟩ := tV288 Z σ [.ref t, .int a, .int b] T.1.1 T.1.2.1 (ent_gen ⟨okx T.1.2.2.1 T.1.2.2.2.1, okA.any a, okA.any b, trivial⟩ (fun c hc => by cases hc) (by decide)) (fun h => absurd rfl h)
  obtain ⟨Z', T', f1, f2, ex, _, a⟩ := ts_ref T (by decide +kernel) post
  refine ⟨n, r, σ', run, alt_i (C := tC288) rfl a, LI.ref2 hb T v.1 T' ex (Rok.fr (fun k i hk => ?_) (Zr.of fun q => f1 26 q (by decide) (by decide +kernel)) (Zr.of fun q => f1 32 q (by decide) (by decide +kernel))) (v.2.ref ex (by decide +kernel) post (fun q => ⟨f1 4 q (by decide) (by decide +kernel), f1 5 q (by decide) (by decide +kernel)⟩))⟩
  rcases hk with e | e | e | e | e | e <;> subst e
  · exact f2 0 i (by decide) (by decide +kernel)
  · exact f1 28 i (by decide) (by decide +kernel)
  · exact f1 39 i (by decide) (by decide +kernel)
  · exact f1 42 i (by decide) (by decide +kernel)
  · exact f2 46 i (by decide) (by decide +kernel)
  · exact f2 47 i (by decide) (by decide +kernel)
end
set_option maxHeartbeats 4000000 in
set_option maxRecDepth 100000 in
theorem lo_look {p : Program} {l : Launch} {e : Env} {s : State} {m : MethodId} {below : List Frame} {meth : Method} {c : Code} {b L : Nat} {xs : Nat → Int32} {D : va_G} {cy : Nat → ClassId} {A : Nat → Prop} (hlt : l.stackTraces = false) {k1 k2 : Nat} (hT : xKt A k1 k2 s) (C0 : lw_At p s m meth c b L xs) (hK : xK D cy s) (hAe : A = fun q : Nat => s.heap.size ≤ q) {j x t qo qa bA : Nat} {B : Nat → Nat} {i : Int32} {σ : ps} {ls : Array Slot} {H : Heap} {locs : List Loc} {cells slots : Nat} (hi : i.toInt = 6 * (j : Int)) (hL : 6 * j + 6 ≤ L) (hL2 : L ≤ 3072) (LI0 : LI s.heap.size j x t qo qa bA B σ) (wd : WdL D cy A s j [(4, .int i), (3, .ref qo), (2, .ref t), (1, .ref x), (0, .ref b)] σ ls H locs cells slots) (kk : ∀ (σ' : ps) (ls : Array Slot) (H : Heap) (locs : List Loc) (cells slots : Nat), LI s.heap.size (j + 1) x t qo qa bA B σ' → WdL D cy A s (j + 1) [(4, .int i), (3, .ref qo), (2, .ref t), (1, .ref x), (0, .ref b)] σ' ls H locs cells slots → W p l e room_1 s m #[Value.ref b] below meth c H locs cells slots (lw_Z below #[Value.ref b] s) (F0 m 884 ls [])) : W p l e room_1 s m #[Value.ref b] below meth c H locs cells slots (lw_Z below #[Value.ref b] s) (F0 m 585 ls []) := by
  obtain ⟨hx, hb, hr, hml, hown, hts9, hX, hbl, hlocks, hgv⟩ := id C0
  have hA : ∀ q : Nat, s.heap.size ≤ q → A q := fun q h => by rw [hAe]; exact h
  have hbA : ¬ A b := by rw [hAe]; exact Nat.not_le.mpr hbl
  have a1 : (i + 1).toInt = 6 * (j : Int) + 1 := by rw [n_add (by rw [hi]; show _ ≤ _ + (1 : Int); omega) (by rw [hi]; show _ + (1 : Int) ≤ _; omega), hi]; rfl
  have a2 : (i + 2).toInt = 6 * (j : Int) + 2 := by rw [n_add (by rw [hi]; show _ ≤ _ + (2 : Int); omega) (by rw [hi]; show _ + (2 : Int) ≤ _; omega), hi]; rfl
  have a3 : (i + 3).toInt = 6 * (j : Int) + 3 := by rw [n_add (by rw [hi]; show _ ≤ _ + (3 : Int); omega) (by rw [hi]; show _ + (3 : Int) ≤ _; omega), hi]; rfl
  have a4 : (i + 4).toInt = 6 * (j : Int) + 4 := by rw [n_add (by rw [hi]; show _ ≤ _ + (4 : Int); omega) (by rw [hi]; show _ + (4 : Int) ≤ _; omega), hi]; rfl
  have a5 : (i + 5).toInt = 6 * (j : Int) + 5 := by rw [n_add (by rw [hi]; show _ ≤ _ + (5 : Int); omega) (by rw [hi]; show _ + (5 : Int) ≤ _; omega), hi]; rfl
  have hj : j ≤ 600 := by omega
  refine lv_aload_n hx hb dL_law_585 rfl (lv_at wd.1 3 rfl) ?_
  refine lv_aload_n hx hb dL_law_586 rfl (lv_at wd.1 4 rfl) ?_
  refine lv_iload hx hb dL_law_587 (lv_at wd.1 0 rfl) ?_
  refine lv_iconst (v := 1) hx hb dL_law_589 (by decide) ?_
  refine lv_iadd hx hb dL_law_590 ?_
  refine va_sld hx hb hX hbl hbA wd.2.2.2.1 (vpin (i := i + 1) (by rw [a1]; omega) (by rw [a1]; omega)) dL_law_591 ?_
  refine lv_aload_n hx hb dL_law_592 rfl (lv_at wd.1 4 rfl) ?_
  refine lv_iload hx hb dL_law_593 (lv_at wd.1 0 rfl) ?_
  refine lv_iconst (v := 2) hx hb dL_law_595 (by decide) ?_
  refine lv_iadd hx hb dL_law_596 ?_
  refine va_sld hx hb hX hbl hbA wd.2.2.2.1 (vpin (i := i + 2) (by rw [a2]; omega) (by rw [a2]; omega)) dL_law_597 ?_
  refine lv_aload_n hx hb dL_law_598 rfl (lv_at wd.1 1 rfl) ?_
  obtain ⟨hl, hP, hD, hS, hz, hc1, hc2⟩ := wd
  have hts := lwts C0
  have rm0 := LI0.rm
  have e1 : room_1.cells = 601024 := rfl
  have e2 : room_1.slots = 7293034 := rfl
  have hcl := c_Llook l hlt D cy (a1 := k1) (a2 := k2) (h := (xs (i + 1).toNatClampNeg)) (w := (xs (i + 2).toNatClampNeg)) LI0.cx.1 LI0.cx.2 LI0.cq.1 LI0.cq.2 (fun q1 q2 => lk_run LI0 q1 q2)
  have hFc : ∀ q, va_A (pW cy σ) σ.1 q → A q := by
    intro q hq
    rcases hq with ⟨k, x, h⟩ | h
    · exact hD.2 _ _ h
    · exact hA q (by have := hS.1; omega)
  refine vx_calli (vx_runSX (As := [.ref x, .int (xs (i + 1).toNatClampNeg), .int (xs (i + 2).toNatClampNeg), .ref qo]) (rest := []) (lwfix C0) hcl (vx_cwSW 4 hts xSW rfl rfl rfl (by decide +kernel) ⟨(Nat.le_of_ble_eq_true rfl), (Nat.le_of_ble_eq_true rfl)⟩) ⟨xblindT, fun U hU hW => ⟨rfl, ⟨by rw [hU]; exact hz, by rw [hU]; exact hP, hK.warm hW, hD.weaken (fun _ _ _ _ => trivial)⟩, xKt.at hW hS hU hT⟩⟩ rfl rfl hl.1 rfl (lv_room (Nat.le_of_ble_eq_true rfl)) dL_law_599 ⟨by omega, by omega⟩) hS (fun q _ h => hFc q h) hFc (fun q _ h => h.elim) (fun E ce q9 u tt H locs ht hvm hpx hBX hz hk hS hce hcv hcl => hBX.elim) (fun r9 u tt H1 locs1 ht hvm hw9 hB hz1 hk1 hS1 => ?_)
  obtain ⟨hP1, hD1⟩ := hB
  rw [ht] at hP1
  refine x_know (fun hsz => ?_)
  obtain ⟨Lt, es⟩ := LI.look (k := H1.size) LI0 hw9 (by omega) (by omega)
  have wd1 : WdL D cy A s (j + 1) [(4, .int i), (3, .ref qo), (2, .ref t), (1, .ref x), (0, .ref b)] (H1.size, u.2) ls H1 locs1 (cells + 1) (slots + 6) := ⟨hl, hP1, hD1.weaken (fun _ x _ h => hFc x.1 h), hS1, rfl, by show cells + 1 + s.heap.size ≤ H1.size + (j + 1); omega, by show slots + 6 ≤ u.2.1 + 6 * (j + 1); omega⟩
  clear hl hP hD hS hz hc1 hc2
  revert wd1
  generalize cells + 1 = cells
  generalize slots + 6 = slots
  intro wd
  refine lv_istore (lv' := [(5, .int r9), (4, .int i), (3, .ref qo), (2, .ref t), (1, .ref x), (0, .ref b)]) hx hb dL_law_602 wd.1 (by decide) rfl (fun ls hl5 => ?_)
  replace wd := wd.ls (lv_sub hl5 [1, 2, 3, 4, 5] rfl)
  refine lv_aload_n hx hb dL_law_604 rfl (lv_at wd.1 2 rfl) ?_
  refine lv_aload_n hx hb dL_law_605 rfl (lv_at wd.1 4 rfl) ?_
  refine lv_iload hx hb dL_law_606 (lv_at wd.1 0 rfl) ?_
  refine lv_iconst (v := 1) hx hb dL_law_608 (by decide) ?_
  refine lv_iadd hx hb dL_law_609 ?_
  refine va_sld hx hb hX hbl hbA wd.2.2.2.1 (vpin (i := i + 1) (by rw [a1]; omega) (by rw [a1]; omega)) dL_law_610 ?_
  refine lv_aload_n hx hb dL_law_611 rfl (lv_at wd.1 4 rfl) ?_
  refine lv_iload hx hb dL_law_612 (lv_at wd.1 0 rfl) ?_
  refine lv_iconst (v := 2) hx hb dL_law_614 (by decide) ?_
  refine lv_iadd hx hb dL_law_615 ?_
  refine va_sld hx hb hX hbl hbA wd.2.2.2.1 (vpin (i := i + 2) (by rw [a2]; omega) (by rw [a2]; omega)) dL_law_616 ?_
  obtain ⟨n2, r2, σ2, run2, ⟨w2, er2⟩, L2⟩ := rk_look (b1 := s.heap.size) (a := (xs (i + 1).toNatClampNeg)) (b := (xs (i + 2).toNatClampNeg)) (by omega) Lt
  subst er2
  have rm2 := L2.rm
  refine lwc (k := 193) (As := [.int (xs (i + 1).toNatClampNeg), .int (xs (i + 2).toNatClampNeg)]) (rest := []) C0 hK hA (by decide) gw1569 gw1570 gw1571 dL_law_617 ⟨by decide +kernel, by decide +kernel⟩ run2 Lt.ct.1 Lt.ct.2 rfl (Nat.le_of_ble_eq_true rfl) (Nat.le_of_ble_eq_true rfl) (by omega) (by omega) wd (fun H locs cells slots wd => ?_)
  show W p l e room_1 s m #[Value.ref b] below meth c H locs cells slots (lw_Z below #[Value.ref b] s) (F0 m 620 ls [.int w2])
  refine lv_istore (lv' := [(6, .int w2), (4, .int i), (3, .ref qo), (2, .ref t), (1, .ref x), (0, .ref b)]) hx hb dL_law_620 wd.1 (by decide) rfl (fun ls hl6 => ?_)
  replace wd := wd.ls (lv_sub hl6 [1, 2, 3, 4, 5] rfl)
  refine lv_goto (tgt := 884) hx hb dL_law_622 (by decide) ?_
  exact kk _ _ _ _ _ _ L2 wd
