set_option maxHeartbeats 4000000 in
set_option maxRecDepth 100000 in
theorem lo_head {p : Program} {l : Launch} {e : Env} {s : State} {m : MethodId} {below : List Frame} {meth : Method} {c : Code} {b L : Nat} {xs : Nat → Int32} {D : va_G} {cy : Nat → ClassId} {A : Nat → Prop} (hlt : l.stackTraces = false) {k1 k2 : Nat} (hT : xKt A k1 k2 s) (C0 : lw_At p s m meth c b L xs) (hK : xK D cy s) (hAe : A = fun q : Nat => s.heap.size ≤ q) {j x t qo qa bA : Nat} {B : Nat → Nat} {i : Int32} {σ : ps} {ls : Array Slot} {H : Heap} {locs : List Loc} {cells slots : Nat} (hi : i.toInt = 6 * (j : Int)) (hL : 6 * j ≤ L) (hL2 : L ≤ 3072) (LI0 : LI s.heap.size j x t qo qa bA B σ) (wd : WdL D cy A s j [(4, .int i), (3, .ref qo), (2, .ref t), (1, .ref x), (0, .ref b)] σ ls H locs cells slots) (kk : ∀ (σ' : ps) (ls : Array Slot) (H : Heap) (locs : List Loc) (cells slots : Nat), 6 * j + 6 ≤ L → LI s.heap.size (j + 1) x t qo qa bA B σ' → WdL D cy A s (j + 1) [(4, .int i), (3, .ref qo), (2, .ref t), (1, .ref x), (0, .ref b)] σ' ls H locs cells slots → W p l e room_1 s m #[Value.ref b] below meth c H locs cells slots (lw_Z below #[Value.ref b] s) (F0 m 884 ls [])) : W p l e room_1 s m #[Value.ref b] below meth c H locs cells slots (lw_Z below #[Value.ref b] s) (F0 m 23 ls []) := by
  obtain ⟨hx, hb, hr, hml, hown, hts9, hX, hbl, hlocks, hgv⟩ := id C0
  have hA : ∀ q : Nat, s.heap.size ≤ q → A q := fun q h => by rw [hAe]; exact h
  have hbA : ¬ A b := by rw [hAe]; exact Nat.not_le.mpr hbl
  have eL : (Int32.ofNat L).toInt = (L : Int) := Int32.toInt_ofNat_of_lt (by omega)
  have e6 : (Int32.ofNat L - 6).toInt = (L : Int) - 6 := by
    have z : (6 : Int32).toInt = 6 := rfl
    rw [n_sub (by rw [eL, z]; omega) (by rw [eL, z]; omega), eL, z]
  refine lv_iload hx hb dL_law_23 (lv_at wd.1 0 rfl) ?_
  refine lv_aload_n hx hb dL_law_25 rfl (lv_at wd.1 4 rfl) ?_
  refine va_slen hx hb hX hbl hbA wd.2.2.2.1 dL_law_26 ?_
  refine lv_bipush (v := 6) hx hb dL_law_27 (by decide) ?_
  refine lv_isub hx hb dL_law_29 ?_
  refine lv_icmp_gt (tgt := 890) hx hb dL_law_30 (by decide) (fun cc => ?_) (fun cc => ?_)
  · refine lv_iconst (v := 1) hx hb dL_law_890 (by decide) ?_
    refine va_forget (fun q hq => by have h9 := wd.2.2.2.1.2.2 q hq; rw [hAe] at h9; exact h9) ?_
    have rm := LI0.rm
    obtain ⟨-, -, -, -, -, hc1, hc2⟩ := wd
    refine W.widen (k := 601024) (n := 7293034) (by omega) (by omega) ?_
    exact lw_ret hx hb hr hlocks dL_law_891
  · have hL6 : 6 * j + 6 ≤ L := by
      rw [Int32.lt_iff_toInt_lt, e6, hi] at cc
      omega
    refine lv_aload_n hx hb dL_law_33 rfl (lv_at wd.1 4 rfl) ?_
    refine lv_iload hx hb dL_law_34 (lv_at wd.1 0 rfl) ?_
    refine va_sld hx hb hX hbl hbA wd.2.2.2.1 (vpin (i := i) (by omega) (by omega)) dL_law_36 ?_
    refine lv_bipush (v := 31) hx hb dL_law_37 (by decide) ?_
    refine lv_iand hx hb dL_law_39 ?_
    obtain ⟨v, hv, ev⟩ := pk_andE (xs i.toNatClampNeg) (m := 31) 5 (by decide)
    rw [ev]
    have kk1 := fun σ' ls H locs cells slots h1 h2 => kk σ' ls H locs cells slots hL6 h1 h2
    rcases (show v = 0 ∨ v = 1 ∨ v = 2 ∨ v = 3 ∨ v = 4 ∨ v = 5 ∨ v = 6 ∨ v = 7 ∨ v = 8 ∨ v = 9 ∨ v = 10 ∨ v = 11 ∨ v = 12 ∨ v = 13 ∨ v = 14 ∨ v = 15 ∨ v = 16 ∨ v = 17 ∨ v = 18 ∨ v = 19 ∨ v = 20 ∨ v = 21 ∨ v = 22 ∨ v = 23 ∨ v = 24 ∨ v = 25 ∨ v = 26 ∨ v = 27 ∨ v = 28 ∨ v = 29 ∨ v = 30 ∨ v = 31 by omega) with rfl | rfl | rfl | rfl | rfl | rfl | rfl | rfl | rfl | rfl | rfl | rfl | rfl | rfl | rfl | rfl | rfl | rfl | rfl | rfl | rfl | rfl | rfl | rfl | rfl | rfl | rfl | rfl | rfl | rfl | rfl | rfl
    · refine lv_tableIn (off := 100) (tgt := 140) hx hb dL_law_40 (by decide) (by decide) (by decide) (by decide) ?_
      exact lo_feed C0 hK hAe hi hL6 hL2 LI0 wd kk1
    · refine lv_tableIn (off := 173) (tgt := 213) hx hb dL_law_40 (by decide) (by decide) (by decide) (by decide) ?_
      exact lo_end C0 hK hAe hi hL6 hL2 LI0 wd kk1
    · refine lv_tableIn (off := 198) (tgt := 238) hx hb dL_law_40 (by decide) (by decide) (by decide) (by decide) ?_
      exact lo_on C0 hK hAe hi hL6 hL2 LI0 wd kk1
    · refine lv_tableIn (off := 235) (tgt := 275) hx hb dL_law_40 (by decide) (by decide) (by decide) (by decide) ?_
      exact lo_off C0 hK hAe hi hL6 hL2 LI0 wd kk1
    · refine lv_tableIn (off := 288) (tgt := 328) hx hb dL_law_40 (by decide) (by decide) (by decide) (by decide) ?_
      exact lo_claim C0 hK hAe hi hL6 hL2 LI0 wd kk1
    · refine lv_tableIn (off := 313) (tgt := 353) hx hb dL_law_40 (by decide) (by decide) (by decide) (by decide) ?_
      exact lo_service C0 hK hAe hi hL6 hL2 LI0 wd kk1
    · refine lv_tableIn (off := 350) (tgt := 390) hx hb dL_law_40 (by decide) (by decide) (by decide) (by decide) ?_
      exact lo_ask C0 hK hAe hi hL6 hL2 LI0 wd kk1
    · refine lv_tableIn (off := 387) (tgt := 427) hx hb dL_law_40 (by decide) (by decide) (by decide) (by decide) ?_
      exact lo_close C0 hK hAe hi hL6 hL2 LI0 wd kk1
    · refine lv_tableIn (off := 424) (tgt := 464) hx hb dL_law_40 (by decide) (by decide) (by decide) (by decide) ?_
      exact lo_go C0 hK hAe hi hL6 hL2 LI0 wd kk1
    · refine lv_tableIn (off := 449) (tgt := 489) hx hb dL_law_40 (by decide) (by decide) (by decide) (by decide) ?_
      exact lo_split C0 hK hAe hi hL6 hL2 LI0 wd kk1
    · refine lv_tableIn (off := 472) (tgt := 512) hx hb dL_law_40 (by decide) (by decide) (by decide) (by decide) ?_
      exact lo_join C0 hK hAe hi hL6 hL2 LI0 wd kk1
    · refine lv_tableIn (off := 483) (tgt := 523) hx hb dL_law_40 (by decide) (by decide) (by decide) (by decide) ?_
      exact lo_lose C0 hK hAe hi hL6 hL2 LI0 wd kk1
    · refine lv_tableIn (off := 520) (tgt := 560) hx hb dL_law_40 (by decide) (by decide) (by decide) (by decide) ?_
      exact lo_give C0 hK hAe hi hL6 hL2 LI0 wd kk1
    · refine lv_tableIn (off := 545) (tgt := 585) hx hb dL_law_40 (by decide) (by decide) (by decide) (by decide) ?_
      exact lo_look hlt hT C0 hK hAe hi hL6 hL2 LI0 wd kk1
    · refine lv_tableIn (off := 585) (tgt := 625) hx hb dL_law_40 (by decide) (by decide) (by decide) (by decide) ?_
      exact lo_sign C0 hK hAe hi hL6 hL2 LI0 wd kk1
    · refine lv_tableIn (off := 622) (tgt := 662) hx hb dL_law_40 (by decide) (by decide) (by decide) (by decide) ?_
      exact lo_answers C0 hK hAe hi hL6 hL2 LI0 wd kk1
    · refine lv_tableIn (off := 659) (tgt := 699) hx hb dL_law_40 (by decide) (by decide) (by decide) (by decide) ?_
      exact lo_found C0 hK hAe hi hL6 hL2 LI0 wd kk1
    · refine lv_tableIn (off := 720) (tgt := 760) hx hb dL_law_40 (by decide) (by decide) (by decide) (by decide) ?_
      exact lo_entry C0 hK hAe hi hL6 hL2 LI0 wd kk1
    · refine lv_tableIn (off := 769) (tgt := 809) hx hb dL_law_40 (by decide) (by decide) (by decide) (by decide) ?_
      exact lo_count C0 hK hAe hi hL6 hL2 LI0 wd kk1
    · refine lv_tableIn (off := 794) (tgt := 834) hx hb dL_law_40 (by decide) (by decide) (by decide) (by decide) ?_
      exact lo_holders C0 hK hAe hi hL6 hL2 LI0 wd kk1
    · refine lv_tableIn (off := 819) (tgt := 859) hx hb dL_law_40 (by decide) (by decide) (by decide) (by decide) ?_
      exact lo_sent C0 hK hAe hi hL6 hL2 LI0 wd kk1
    · refine lv_tableOut (tgt := 884) hx hb dL_law_40 (Or.inr (by decide)) (by decide) ?_
      exact kk1 _ _ _ _ _ _ (LI0.up (Nat.le_succ j)) (wd.up (Nat.le_succ j))
    · refine lv_tableOut (tgt := 884) hx hb dL_law_40 (Or.inr (by decide)) (by decide) ?_
      exact kk1 _ _ _ _ _ _ (LI0.up (Nat.le_succ j)) (wd.up (Nat.le_succ j))
    · refine lv_tableOut (tgt := 884) hx hb dL_law_40 (Or.inr (by decide)) (by decide) ?_
      exact kk1 _ _ _ _ _ _ (LI0.up (Nat.le_succ j)) (wd.up (Nat.le_succ j))
    · refine lv_tableOut (tgt := 884) hx hb dL_law_40 (Or.inr (by decide)) (by decide) ?_
      exact kk1 _ _ _ _ _ _ (LI0.up (Nat.le_succ j)) (wd.up (Nat.le_succ j))
    · refine lv_tableOut (tgt := 884) hx hb dL_law_40 (Or.inr (by decide)) (by decide) ?_
      exact kk1 _ _ _ _ _ _ (LI0.up (Nat.le_succ j)) (wd.up (Nat.le_succ j))
    · refine lv_tableOut (tgt := 884) hx hb dL_law_40 (Or.inr (by decide)) (by decide) ?_
      exact kk1 _ _ _ _ _ _ (LI0.up (Nat.le_succ j)) (wd.up (Nat.le_succ j))
    · refine lv_tableOut (tgt := 884) hx hb dL_law_40 (Or.inr (by decide)) (by decide) ?_
      exact kk1 _ _ _ _ _ _ (LI0.up (Nat.le_succ j)) (wd.up (Nat.le_succ j))
    · refine lv_tableOut (tgt := 884) hx hb dL_law_40 (Or.inr (by decide)) (by decide) ?_
      exact kk1 _ _ _ _ _ _ (LI0.up (Nat.le_succ j)) (wd.up (Nat.le_succ j))
    · refine lv_tableOut (tgt := 884) hx hb dL_law_40 (Or.inr (by decide)) (by decide) ?_
      exact kk1 _ _ _ _ _ _ (LI0.up (Nat.le_succ j)) (wd.up (Nat.le_succ j))
    · refine lv_tableOut (tgt := 884) hx hb dL_law_40 (Or.inr (by decide)) (by decide) ?_
      exact kk1 _ _ _ _ _ _ (LI0.up (Nat.le_succ j)) (wd.up (Nat.le_succ j))
    · refine lv_tableOut (tgt := 884) hx hb dL_law_40 (Or.inr (by decide)) (by decide) ?_
      exact kk1 _ _ _ _ _ _ (LI0.up (Nat.le_succ j)) (wd.up (Nat.le_succ j))
theorem lo_loop {p : Program} {l : Launch} {e : Env} {s : State} {m : MethodId} {below : List Frame} {meth : Method} {c : Code} {b L : Nat} {xs : Nat → Int32} {D : va_G} {cy : Nat → ClassId} {A : Nat → Prop} (hlt : l.stackTraces = false) {k1 k2 : Nat} (hT : xKt A k1 k2 s) (C0 : lw_At p s m meth c b L xs) (hK : xK D cy s) (hAe : A = fun q : Nat => s.heap.size ≤ q) {x t qo qa bA : Nat} {B : Nat → Nat} (hL2 : L ≤ 3072) : ∀ (n j : Nat) (i : Int32) (σ : ps) (ls : Array Slot) (H : Heap) (locs : List Loc) (cells slots : Nat), L ≤ 6 * j + n → 6 * j ≤ L → i.toInt = 6 * (j : Int) → LI s.heap.size j x t qo qa bA B σ → WdL D cy A s j [(4, .int i), (3, .ref qo), (2, .ref t), (1, .ref x), (0, .ref b)] σ ls H locs cells slots → W p l e room_1 s m #[Value.ref b] below meth c H locs cells slots (lw_Z below #[Value.ref b] s) (F0 m 23 ls []) := by
  intro n
  induction n with
  | zero =>
    intro j i σ ls H locs cells slots h1 h2 hi L0 wd
    exact lo_head hlt hT C0 hK hAe hi h2 hL2 L0 wd (fun _ _ _ _ _ _ h _ _ => by omega)
  | succ n ih =>
    intro j i σ ls H locs cells slots h1 h2 hi L0 wd
    refine lo_head hlt hT C0 hK hAe hi h2 hL2 L0 wd (fun σ' ls H locs cells slots h L1 wd => ?_)
    have hx := C0.1
    have hb := C0.2.1
    have a6 : (i + Int32.ofInt 6).toInt = 6 * ((j + 1 : Nat) : Int) := by
      have z : (Int32.ofInt 6).toInt = 6 := by decide
      rw [n_add (by rw [hi, z]; omega) (by rw [hi, z]; omega), hi, z]
      omega
    refine lv_iinc (k := 0) (lv' := [(4, .int (i + Int32.ofInt 6)), (3, .ref qo), (2, .ref t), (1, .ref x), (0, .ref b)]) hx hb dL_law_884 wd.1 rfl rfl (by decide) rfl (fun ls hl => ?_)
    refine lv_goto (tgt := 23) hx hb dL_law_887 (by decide) ?_
    exact ih (j + 1) (i + Int32.ofInt 6) σ' ls H locs cells slots (by omega) (by omega) a6 L1 (wd.ls hl)
set_option maxHeartbeats 4000000 in
set_option maxRecDepth 100000 in
theorem whole_start {p : Program} {e : Env} {s : State} {m : MethodId} {below : List Frame} {meth : Method} {c : Code} (l : Launch) (hlt : l.stackTraces = false) {b L : Nat} {xs : Nat → Int32} (hL : L ≤ 3072) (C0 : lw_At p s m meth c b L xs) : W p l e room_1 s m #[Value.ref b] below meth c s.heap [] 0 0 (lw_Z below #[Value.ref b] s) (entryFrame m ([Value.ref b] : List Value).toArray 7) := by
  obtain ⟨hx, hb, hr, hml, hown, hts9, hX, hbl, hlocks, hgv⟩ := id C0
  obtain ⟨D, cy, hK⟩ := x_start hts9
  obtain ⟨k1, k2, hT⟩ := x_startT hts9 hgv
  obtain ⟨A, hAe⟩ : ∃ A : Nat → Prop, A = (fun q : Nat => s.heap.size ≤ q) := ⟨_, rfl⟩
  have hA : ∀ q : Nat, s.heap.size ≤ q → A q := fun q h => by rw [hAe]; exact h
  rw [← hAe] at hT
  have hl := lv_entry ([.ref b]) (n := 7) (Nat.le_of_ble_eq_true rfl)
  rw [lg_entry_eq]
  generalize (lg_sl ([.ref b]) ++ List.replicate (7 - (lg_sl ([.ref b])).length) Slot.unset).toArray = ls at hl ⊢
  have hl : lv_has ls 7 [(0, .ref b)] := hl
  have wd : WdL D cy A s 0 [(0, .ref b)] (s_0 s.heap.size) ls s.heap [] 0 0 := ⟨hl, (fun k q h => by simp [pW, va_pl, s_0, sL] at h), ⟨fun i j p q h => by simp [pW, va_pl, s_0, sL] at h, fun k q h => by simp [pW, va_pl, s_0, sL] at h⟩, va_S.rf, rfl, by show 0 + s.heap.size ≤ s.heap.size + 0; omega, Nat.zero_le _⟩
  obtain ⟨n1, σ1, run1, qa, Z1, S1⟩ := st_cls s.heap.size
  obtain ⟨n2, σ2, run2, Z2, S2⟩ := st_ref S1
  obtain ⟨hr0, HI1⟩ := st_hosts run1
  have LI0 := st_li S2 (st_keep S1.2.1 run2 HI1)
  have q1 : σ1.1 ≤ s.heap.size + 1395 ∧ σ1.2.1 ≤ 12790 := S1.2.2.2.2.2.2.2
  have q2 : σ2.1 ≤ s.heap.size + 1453 ∧ σ2.2.1 ≤ 187433 := S2.2.2.2.2.2.2.2.2.2.2.2.2.2.2
  have z0 : (s_0 s.heap.size).1 = s.heap.size ∧ (s_0 s.heap.size).2.1 = 0 := ⟨rfl, rfl⟩
  have f12 : nF 12 = 10 := rfl
  have f13 : nF 13 = 68 := rfl
  refine lwn (k := 12) (rest := []) C0 hK hA (by decide) gw21 gw22 gw1 dL_law_0 (by omega) (by omega) wd (fun H locs cells slots wd => ?_)
  refine lv_dup hx hb dL_law_3 rfl ?_
  refine lwi (k := 86) (rest := [.ref s.heap.size]) C0 hK hA (by decide) rfl rfl gw23 gw24 rfl dL_law_4 ⟨by decide +kernel, by decide +kernel⟩ run1 (Nat.le_of_ble_eq_true rfl) (Nat.le_of_ble_eq_true rfl) (by omega) (by omega) wd (fun H locs cells slots wd => ?_)
  refine lv_astore_n (lv' := [(1, .ref s.heap.size), (0, .ref b)]) hx hb dL_law_7 rfl wd.1 (by decide) rfl (fun ls hl => ?_)
  replace wd := wd.ls hl
  refine lwn (k := 13) (rest := []) C0 hK hA (by decide) gw1115 gw1116 gw14 dL_law_8 (by omega) (by omega) wd (fun H locs cells slots wd => ?_)
  refine lv_dup hx hb dL_law_11 rfl ?_
  refine lwi (k := 135) (rest := [.ref σ1.1]) C0 hK hA (by decide) rfl rfl gw1117 gw1118 rfl dL_law_12 ⟨by decide +kernel, by decide +kernel⟩ run2 (Nat.le_of_ble_eq_true rfl) (Nat.le_of_ble_eq_true rfl) (by omega) (by omega) wd (fun H locs cells slots wd => ?_)
  refine lv_astore_n (lv' := [(2, .ref σ1.1), (1, .ref s.heap.size), (0, .ref b)]) hx hb dL_law_15 rfl wd.1 (by decide) rfl (fun ls hl => ?_)
  replace wd := wd.ls hl
  refine lv_iconst (v := 1) hx hb dL_law_16 (by decide) ?_
  refine lwa (rest := []) C0 hK hA rfl gw1328 dL_law_17 (by omega) (by omega) wd (fun H locs cells slots wd => ?_)
  refine lv_astore_n (lv' := [(3, .ref σ2.1), (2, .ref σ1.1), (1, .ref s.heap.size), (0, .ref b)]) hx hb dL_law_19 rfl wd.1 (by decide) rfl (fun ls hl => ?_)
  replace wd := wd.ls hl
  refine lv_iconst (v := 0) hx hb dL_law_20 (by decide) ?_
  refine lv_istore (lv' := [(4, .int 0), (3, .ref σ2.1), (2, .ref σ1.1), (1, .ref s.heap.size), (0, .ref b)]) hx hb dL_law_21 wd.1 (by decide) rfl (fun ls hl => ?_)
  replace wd := wd.ls hl
  exact lo_loop hlt hT C0 hK hAe hL L 0 0 _ ls _ _ _ _ (by omega) (by omega) rfl LI0 wd
