section
variable {b0 j x t qo qa bA : Nat} {A : Nat → Nat} {σ : ps}
theorem LI.cx (h : LI b0 j x t qo qa bA A σ) : x ∈ sL σ ∧ sK σ x = 12 := by
  obtain ⟨Z, T, _⟩ := h
  exact ⟨T.xm, T.2.1.2⟩
theorem LI.ct (h : LI b0 j x t qo qa bA A σ) : t ∈ sL σ ∧ sK σ t = 13 := by
  obtain ⟨Z, T, _⟩ := h
  exact ⟨T.1.mem, T.1.2.2.2.1⟩
theorem LI.rm (h : LI b0 j x t qo qa bA A σ) : σ.1 ≤ b0 + 5000 + 700 * j ∧ σ.2.1 ≤ 420000 + 6 * j := by
  obtain ⟨Z, T, _⟩ := h
  exact T.2.2.2.1.le
theorem LG.ct {m w : Int32} (h : LG b0 j x t qo qa bA A m w σ) : t ∈ sL σ ∧ sK σ t = 13 := by
  obtain ⟨Z, T, _⟩ := h
  exact ⟨T.1.mem, T.1.2.2.2.1⟩
theorem LG.rm {m w : Int32} (h : LG b0 j x t qo qa bA A m w σ) : σ.1 ≤ b0 + 5000 + 700 * j ∧ σ.2.1 ≤ 420000 + 6 * j := by
  obtain ⟨Z, T, _⟩ := h
  exact T.2.2.2.1.le
end
theorem gw484 : (Cond.methodLink RL 21 yX12_feed) ∈ xG := xin3 4 (by decide +kernel) (by decide +kernel)
theorem gw1329 : (Cond.methodLink RL 25 yX13_feed) ∈ xG := xin6 129 (by decide +kernel) (by decide +kernel)
theorem gw496 : (Cond.methodLink RL 26 yX12_end) ∈ xG := xin3 16 (by decide +kernel) (by decide +kernel)
theorem gw1333 : (Cond.methodLink RL 30 yX13_end) ∈ xG := xin6 133 (by decide +kernel) (by decide +kernel)
theorem gw500 : (Cond.methodLink RL 31 yX12_on) ∈ xG := xin3 20 (by decide +kernel) (by decide +kernel)
theorem gw1511 : (Cond.methodLink RL 35 yX13_on) ∈ xG := xin7 71 (by decide +kernel) (by decide +kernel)
theorem gw527 : (Cond.methodLink RL 36 yX12_off) ∈ xG := xin3 47 (by decide +kernel) (by decide +kernel)
theorem gw1524 : (Cond.methodLink RL 40 yX13_off) ∈ xG := xin7 84 (by decide +kernel) (by decide +kernel)
theorem gw573 : (Cond.methodLink RL 41 yX12_claim) ∈ xG := xin3 93 (by decide +kernel) (by decide +kernel)
theorem gw1528 : (Cond.methodLink RL 45 yX13_claim) ∈ xG := xin7 88 (by decide +kernel) (by decide +kernel)
theorem gw616 : (Cond.methodLink RL 46 yX12_service) ∈ xG := xin3 136 (by decide +kernel) (by decide +kernel)
theorem gw1536 : (Cond.methodLink RL 49 yX13_service) ∈ xG := xin7 96 (by decide +kernel) (by decide +kernel)
theorem gw620 : (Cond.methodLink RL 50 yX12_ask) ∈ xG := xin3 140 (by decide +kernel) (by decide +kernel)
theorem gw1540 : (Cond.methodLink RL 53 yX13_ask) ∈ xG := xin7 100 (by decide +kernel) (by decide +kernel)
theorem gw629 : (Cond.methodLink RL 54 yX12_close) ∈ xG := xin3 149 (by decide +kernel) (by decide +kernel)
theorem gw1545 : (Cond.methodLink RL 57 yX13_close) ∈ xG := xin7 105 (by decide +kernel) (by decide +kernel)
theorem gw861 : (Cond.methodLink RL 58 yX12_go) ∈ xG := xin4 141 (by decide +kernel) (by decide +kernel)
theorem gw1337 : (Cond.methodLink RL 61 yX13_go) ∈ xG := xin6 137 (by decide +kernel) (by decide +kernel)
theorem gw955 : (Cond.methodLink RL 62 yX12_split) ∈ xG := xin4 235 (by decide +kernel) (by decide +kernel)
theorem gw1553 : (Cond.methodLink RL 66 yX13_split) ∈ xG := xin7 113 (by decide +kernel) (by decide +kernel)
theorem gw959 : (Cond.methodLink RL 67 yX12_join) ∈ xG := xin4 239 (by decide +kernel) (by decide +kernel)
theorem gw1557 : (Cond.methodLink RL 70 yX13_join) ∈ xG := xin7 117 (by decide +kernel) (by decide +kernel)
theorem gw637 : (Cond.methodLink RL 71 yX12_lose) ∈ xG := xin3 157 (by decide +kernel) (by decide +kernel)
theorem gw1561 : (Cond.methodLink RL 74 yX13_lose) ∈ xG := xin7 121 (by decide +kernel) (by decide +kernel)
theorem gw641 : (Cond.methodLink RL 75 yX12_give) ∈ xG := xin3 161 (by decide +kernel) (by decide +kernel)
theorem gw1565 : (Cond.methodLink RL 78 yX13_give) ∈ xG := xin7 125 (by decide +kernel) (by decide +kernel)
theorem gw971 : (Cond.methodLink RL 85 yX12_sign) ∈ xG := xin5 11 (by decide +kernel) (by decide +kernel)
theorem gw1577 : (Cond.methodLink RL 88 yX13_sign) ∈ xG := xin7 137 (by decide +kernel) (by decide +kernel)
theorem gw979 : (Cond.methodLink RL 89 yX12_answers) ∈ xG := xin5 19 (by decide +kernel) (by decide +kernel)
theorem gw1581 : (Cond.methodLink RL 92 yX13_answers) ∈ xG := xin7 141 (by decide +kernel) (by decide +kernel)
theorem gw987 : (Cond.methodLink RL 93 yX12_found) ∈ xG := xin5 27 (by decide +kernel) (by decide +kernel)
theorem gw1589 : (Cond.methodLink RL 97 yX13_found) ∈ xG := xin7 149 (by decide +kernel) (by decide +kernel)
theorem gw995 : (Cond.methodLink RL 98 yX12_entry) ∈ xG := xin5 35 (by decide +kernel) (by decide +kernel)
theorem gw1593 : (Cond.methodLink RL 102 yX13_entry) ∈ xG := xin7 153 (by decide +kernel) (by decide +kernel)
theorem gw1003 : (Cond.methodLink RL 103 yX12_count) ∈ xG := xin5 43 (by decide +kernel) (by decide +kernel)
theorem gw1597 : (Cond.methodLink RL 106 yX13_count) ∈ xG := xin7 157 (by decide +kernel) (by decide +kernel)
theorem gw1007 : (Cond.methodLink RL 107 yX12_holders) ∈ xG := xin5 47 (by decide +kernel) (by decide +kernel)
theorem gw1601 : (Cond.methodLink RL 110 yX13_holders) ∈ xG := xin7 161 (by decide +kernel) (by decide +kernel)
theorem gw1011 : (Cond.methodLink RL 111 yX12_sent) ∈ xG := xin5 51 (by decide +kernel) (by decide +kernel)
theorem gw1605 : (Cond.methodLink RL 114 yX13_sent) ∈ xG := xin7 165 (by decide +kernel) (by decide +kernel)
set_option maxHeartbeats 2000000 in
theorem lo_feed {p : Program} {l : Launch} {e : Env} {s : State} {m : MethodId} {below : List Frame} {meth : Method} {c : Code} {b L : Nat} {xs : Nat → Int32} {D : va_G} {cy : Nat → ClassId} {A : Nat → Prop} (C0 : lw_At p s m meth c b L xs) (hK : xK D cy s) (hAe : A = fun q : Nat => s.heap.size ≤ q) {j x t qo qa bA : Nat} {B : Nat → Nat} {i : Int32} {σ : ps} {ls : Array Slot} {H : Heap} {locs : List Loc} {cells slots : Nat} (hi : i.toInt = 6 * (j : Int)) (hL : 6 * j + 6 ≤ L) (hL2 : L ≤ 3072) (LI0 : LI s.heap.size j x t qo qa bA B σ) (wd : WdL D cy A s j [(4, .int i), (3, .ref qo), (2, .ref t), (1, .ref x), (0, .ref b)] σ ls H locs cells slots) (kk : ∀ (σ' : ps) (ls : Array Slot) (H : Heap) (locs : List Loc) (cells slots : Nat), LI s.heap.size (j + 1) x t qo qa bA B σ' → WdL D cy A s (j + 1) [(4, .int i), (3, .ref qo), (2, .ref t), (1, .ref x), (0, .ref b)] σ' ls H locs cells slots → W p l e room_1 s m #[Value.ref b] below meth c H locs cells slots (lw_Z below #[Value.ref b] s) (F0 m 884 ls [])) : W p l e room_1 s m #[Value.ref b] below meth c H locs cells slots (lw_Z below #[Value.ref b] s) (F0 m 140 ls []) := by
  obtain ⟨hx, hb, hr, hml, hown, hts9, hX, hbl, hlocks, hgv⟩ := id C0
  have hA : ∀ q : Nat, s.heap.size ≤ q → A q := fun q h => by rw [hAe]; exact h
  have hbA : ¬ A b := by rw [hAe]; exact Nat.not_le.mpr hbl
  have a1 : (i + 1).toInt = 6 * (j : Int) + 1 := by rw [n_add (by rw [hi]; show _ ≤ _ + (1 : Int); omega) (by rw [hi]; show _ + (1 : Int) ≤ _; omega), hi]; rfl
  have a2 : (i + 2).toInt = 6 * (j : Int) + 2 := by rw [n_add (by rw [hi]; show _ ≤ _ + (2 : Int); omega) (by rw [hi]; show _ + (2 : Int) ≤ _; omega), hi]; rfl
  have a3 : (i + 3).toInt = 6 * (j : Int) + 3 := by rw [n_add (by rw [hi]; show _ ≤ _ + (3 : Int); omega) (by rw [hi]; show _ + (3 : Int) ≤ _; omega), hi]; rfl
  have a4 : (i + 4).toInt = 6 * (j : Int) + 4 := by rw [n_add (by rw [hi]; show _ ≤ _ + (4 : Int); omega) (by rw [hi]; show _ + (4 : Int) ≤ _; omega), hi]; rfl
  have a5 : (i + 5).toInt = 6 * (j : Int) + 5 := by rw [n_add (by rw [hi]; show _ ≤ _ + (5 : Int); omega) (by rw [hi]; show _ + (5 : Int) ≤ _; omega), hi]; rfl
  have hj : j ≤ 600 := by omega
  refine lv_aload_n hx hb dL_law_140 rfl (lv_at wd.1 3 rfl) ?_
  refine lv_aload_n hx hb dL_law_141 rfl (lv_at wd.1 4 rfl) ?_
  refine lv_iload hx hb dL_law_142 (lv_at wd.1 0 rfl) ?_
  refine lv_iconst (v := 1) hx hb dL_law_144 (by decide) ?_
  refine lv_iadd hx hb dL_law_145 ?_
  refine va_sld hx hb hX hbl hbA wd.2.2.2.1 (vpin (i := i + 1) (by rw [a1]; omega) (by rw [a1]; omega)) dL_law_146 ?_
  refine lv_aload_n hx hb dL_law_147 rfl (lv_at wd.1 4 rfl) ?_
  refine lv_iload hx hb dL_law_148 (lv_at wd.1 0 rfl) ?_
  refine lv_iconst (v := 2) hx hb dL_law_150 (by decide) ?_
  refine lv_iadd hx hb dL_law_151 ?_
  refine va_sld hx hb hX hbl hbA wd.2.2.2.1 (vpin (i := i + 2) (by rw [a2]; omega) (by rw [a2]; omega)) dL_law_152 ?_
  refine lv_aload_n hx hb dL_law_153 rfl (lv_at wd.1 4 rfl) ?_
  refine lv_iload hx hb dL_law_154 (lv_at wd.1 0 rfl) ?_
  refine lv_iconst (v := 3) hx hb dL_law_156 (by decide) ?_
  refine lv_iadd hx hb dL_law_157 ?_
  refine va_sld hx hb hX hbl hbA wd.2.2.2.1 (vpin (i := i + 3) (by rw [a3]; omega) (by rw [a3]; omega)) dL_law_158 ?_
  refine lv_aload_n hx hb dL_law_159 rfl (lv_at wd.1 4 rfl) ?_
  refine lv_iload hx hb dL_law_160 (lv_at wd.1 0 rfl) ?_
  refine lv_iconst (v := 4) hx hb dL_law_162 (by decide) ?_
  refine lv_iadd hx hb dL_law_163 ?_
  refine va_sld hx hb hX hbl hbA wd.2.2.2.1 (vpin (i := i + 4) (by rw [a4]; omega) (by rw [a4]; omega)) dL_law_164 ?_
  refine lv_aload_n hx hb dL_law_165 rfl (lv_at wd.1 4 rfl) ?_
  refine lv_iload hx hb dL_law_166 (lv_at wd.1 0 rfl) ?_
  refine lv_iconst (v := 5) hx hb dL_law_168 (by decide) ?_
  refine lv_iadd hx hb dL_law_169 ?_
  refine va_sld hx hb hX hbl hbA wd.2.2.2.1 (vpin (i := i + 5) (by rw [a5]; omega) (by rw [a5]; omega)) dL_law_170 ?_
  obtain ⟨n1, r1, σ1, run1, ⟨w1, er1⟩, L1⟩ := cs_feed (a := (xs (i + 1).toNatClampNeg)) (b := (xs (i + 2).toNatClampNeg)) (c := (xs (i + 3).toNatClampNeg)) (d := (xs (i + 4).toNatClampNeg)) (e := (xs (i + 5).toNatClampNeg)) LI0
  subst er1
  have rm1 := L1.rm
  refine lwc (k := 87) (As := [.int (xs (i + 1).toNatClampNeg), .int (xs (i + 2).toNatClampNeg), .int (xs (i + 3).toNatClampNeg), .int (xs (i + 4).toNatClampNeg), .int (xs (i + 5).toNatClampNeg)]) (rest := []) C0 hK hA (by decide) gw484 gw485 gw486 dL_law_171 ⟨by decide +kernel, by decide +kernel⟩ run1 LI0.cx.1 LI0.cx.2 rfl (Nat.le_of_ble_eq_true rfl) (Nat.le_of_ble_eq_true rfl) (by omega) (by omega) wd (fun H locs cells slots wd => ?_)
  show W p l e room_1 s m #[Value.ref b] below meth c H locs cells slots (lw_Z below #[Value.ref b] s) (F0 m 174 ls [.int w1])
  refine lv_pop hx hb dL_law_174 rfl ?_
  refine lv_aload_n hx hb dL_law_175 rfl (lv_at wd.1 2 rfl) ?_
  refine lv_aload_n hx hb dL_law_176 rfl (lv_at wd.1 4 rfl) ?_
  refine lv_iload hx hb dL_law_177 (lv_at wd.1 0 rfl) ?_
  refine lv_iconst (v := 1) hx hb dL_law_179 (by decide) ?_
  refine lv_iadd hx hb dL_law_180 ?_
  refine va_sld hx hb hX hbl hbA wd.2.2.2.1 (vpin (i := i + 1) (by rw [a1]; omega) (by rw [a1]; omega)) dL_law_181 ?_
  refine lv_aload_n hx hb dL_law_182 rfl (lv_at wd.1 4 rfl) ?_
  refine lv_iload hx hb dL_law_183 (lv_at wd.1 0 rfl) ?_
  refine lv_iconst (v := 2) hx hb dL_law_185 (by decide) ?_
  refine lv_iadd hx hb dL_law_186 ?_
  refine va_sld hx hb hX hbl hbA wd.2.2.2.1 (vpin (i := i + 2) (by rw [a2]; omega) (by rw [a2]; omega)) dL_law_187 ?_
  refine lv_aload_n hx hb dL_law_188 rfl (lv_at wd.1 4 rfl) ?_
  refine lv_iload hx hb dL_law_189 (lv_at wd.1 0 rfl) ?_
  refine lv_iconst (v := 3) hx hb dL_law_191 (by decide) ?_
  refine lv_iadd hx hb dL_law_192 ?_
  refine va_sld hx hb hX hbl hbA wd.2.2.2.1 (vpin (i := i + 3) (by rw [a3]; omega) (by rw [a3]; omega)) dL_law_193 ?_
  refine lv_aload_n hx hb dL_law_194 rfl (lv_at wd.1 4 rfl) ?_
  refine lv_iload hx hb dL_law_195 (lv_at wd.1 0 rfl) ?_
  refine lv_iconst (v := 4) hx hb dL_law_197 (by decide) ?_
  refine lv_iadd hx hb dL_law_198 ?_
  refine va_sld hx hb hX hbl hbA wd.2.2.2.1 (vpin (i := i + 4) (by rw [a4]; omega) (by rw [a4]; omega)) dL_law_199 ?_
  refine lv_aload_n hx hb dL_law_200 rfl (lv_at wd.1 4 rfl) ?_
  refine lv_iload hx hb dL_law_201 (lv_at wd.1 0 rfl) ?_
  refine lv_iconst (v := 5) hx hb dL_law_203 (by decide) ?_
  refine lv_iadd hx hb dL_law_204 ?_
  refine va_sld hx hb hX hbl hbA wd.2.2.2.1 (vpin (i := i + 5) (by rw [a5]; omega) (by rw [a5]; omega)) dL_law_205 ?_
  obtain ⟨n2, r2, σ2, run2, ⟨w2, er2⟩, L2⟩ := rs_feed (a := (xs (i + 1).toNatClampNeg)) (b := (xs (i + 2).toNatClampNeg)) (c := (xs (i + 3).toNatClampNeg)) (d := (xs (i + 4).toNatClampNeg)) (e := (xs (i + 5).toNatClampNeg)) L1
  subst er2
  have rm2 := L2.rm
  refine lwc (k := 136) (As := [.int (xs (i + 1).toNatClampNeg), .int (xs (i + 2).toNatClampNeg), .int (xs (i + 3).toNatClampNeg), .int (xs (i + 4).toNatClampNeg), .int (xs (i + 5).toNatClampNeg)]) (rest := []) C0 hK hA (by decide) gw1329 gw1330 gw1331 dL_law_206 ⟨by decide +kernel, by decide +kernel⟩ run2 L1.ct.1 L1.ct.2 rfl (Nat.le_of_ble_eq_true rfl) (Nat.le_of_ble_eq_true rfl) (by omega) (by omega) wd (fun H locs cells slots wd => ?_)
  show W p l e room_1 s m #[Value.ref b] below meth c H locs cells slots (lw_Z below #[Value.ref b] s) (F0 m 209 ls [.int w2])
  refine lv_pop hx hb dL_law_209 rfl ?_
  refine lv_goto (tgt := 884) hx hb dL_law_210 (by decide) ?_
  exact kk _ _ _ _ _ _ L2 (wd.up (by omega))
set_option maxHeartbeats 2000000 in
theorem lo_end {p : Program} {l : Launch} {e : Env} {s : State} {m : MethodId} {below : List Frame} {meth : Method} {c : Code} {b L : Nat} {xs : Nat → Int32} {D : va_G} {cy : Nat → ClassId} {A : Nat → Prop} (C0 : lw_At p s m meth c b L xs) (hK : xK D cy s) (hAe : A = fun q : Nat => s.heap.size ≤ q) {j x t qo qa bA : Nat} {B : Nat → Nat} {i : Int32} {σ : ps} {ls : Array Slot} {H : Heap} {locs : List Loc} {cells slots : Nat} (hi : i.toInt = 6 * (j : Int)) (hL : 6 * j + 6 ≤ L) (hL2 : L ≤ 3072) (LI0 : LI s.heap.size j x t qo qa bA B σ) (wd : WdL D cy A s j [(4, .int i), (3, .ref qo), (2, .ref t), (1, .ref x), (0, .ref b)] σ ls H locs cells slots) (kk : ∀ (σ' : ps) (ls : Array Slot) (H : Heap) (locs : List Loc) (cells slots : Nat), LI s.heap.size (j + 1) x t qo qa bA B σ' → WdL D cy A s (j + 1) [(4, .int i), (3, .ref qo), (2, .ref t), (1, .ref x), (0, .ref b)] σ' ls H locs cells slots → W p l e room_1 s m #[Value.ref b] below meth c H locs cells slots (lw_Z below #[Value.ref b] s) (F0 m 884 ls [])) : W p l e room_1 s m #[Value.ref b] below meth c H locs cells slots (lw_Z below #[Value.ref b] s) (F0 m 213 ls []) := by
  obtain ⟨hx, hb, hr, hml, hown, hts9, hX, hbl, hlocks, hgv⟩ := id C0
  have hA : ∀ q : Nat, s.heap.size ≤ q → A q := fun q h => by rw [hAe]; exact h
  have hbA : ¬ A b := by rw [hAe]; exact Nat.not_le.mpr hbl
  have a1 : (i + 1).toInt = 6 * (j : Int) + 1 := by rw [n_add (by rw [hi]; show _ ≤ _ + (1 : Int); omega) (by rw [hi]; show _ + (1 : Int) ≤ _; omega), hi]; rfl
  have a2 : (i + 2).toInt = 6 * (j : Int) + 2 := by rw [n_add (by rw [hi]; show _ ≤ _ + (2 : Int); omega) (by rw [hi]; show _ + (2 : Int) ≤ _; omega), hi]; rfl
  have a3 : (i + 3).toInt = 6 * (j : Int) + 3 := by rw [n_add (by rw [hi]; show _ ≤ _ + (3 : Int); omega) (by rw [hi]; show _ + (3 : Int) ≤ _; omega), hi]; rfl
  have a4 : (i + 4).toInt = 6 * (j : Int) + 4 := by rw [n_add (by rw [hi]; show _ ≤ _ + (4 : Int); omega) (by rw [hi]; show _ + (4 : Int) ≤ _; omega), hi]; rfl
  have a5 : (i + 5).toInt = 6 * (j : Int) + 5 := by rw [n_add (by rw [hi]; show _ ≤ _ + (5 : Int); omega) (by rw [hi]; show _ + (5 : Int) ≤ _; omega), hi]; rfl
  have hj : j ≤ 600 := by omega
  refine lv_aload_n hx hb dL_law_213 rfl (lv_at wd.1 3 rfl) ?_
  refine lv_aload_n hx hb dL_law_214 rfl (lv_at wd.1 4 rfl) ?_
  refine lv_iload hx hb dL_law_215 (lv_at wd.1 0 rfl) ?_
  refine lv_iconst (v := 1) hx hb dL_law_217 (by decide) ?_
  refine lv_iadd hx hb dL_law_218 ?_
  refine va_sld hx hb hX hbl hbA wd.2.2.2.1 (vpin (i := i + 1) (by rw [a1]; omega) (by rw [a1]; omega)) dL_law_219 ?_
  obtain ⟨n1, r1, σ1, run1, ⟨w1, er1⟩, L1⟩ := cs_end (a := (xs (i + 1).toNatClampNeg)) LI0
  subst er1
  have rm1 := L1.rm
  refine lwc (k := 88) (As := [.int (xs (i + 1).toNatClampNeg)]) (rest := []) C0 hK hA (by decide) gw496 gw497 gw498 dL_law_220 ⟨by decide +kernel, by decide +kernel⟩ run1 LI0.cx.1 LI0.cx.2 rfl (Nat.le_of_ble_eq_true rfl) (Nat.le_of_ble_eq_true rfl) (by omega) (by omega) wd (fun H locs cells slots wd => ?_)
  show W p l e room_1 s m #[Value.ref b] below meth c H locs cells slots (lw_Z below #[Value.ref b] s) (F0 m 223 ls [.int w1])
  refine lv_pop hx hb dL_law_223 rfl ?_
  refine lv_aload_n hx hb dL_law_224 rfl (lv_at wd.1 2 rfl) ?_
  refine lv_aload_n hx hb dL_law_225 rfl (lv_at wd.1 4 rfl) ?_
  refine lv_iload hx hb dL_law_226 (lv_at wd.1 0 rfl) ?_
  refine lv_iconst (v := 1) hx hb dL_law_228 (by decide) ?_
  refine lv_iadd hx hb dL_law_229 ?_
  refine va_sld hx hb hX hbl hbA wd.2.2.2.1 (vpin (i := i + 1) (by rw [a1]; omega) (by rw [a1]; omega)) dL_law_230 ?_
  obtain ⟨n2, r2, σ2, run2, ⟨w2, er2⟩, L2⟩ := rs_end (a := (xs (i + 1).toNatClampNeg)) L1
  subst er2
  have rm2 := L2.rm
  refine lwc (k := 137) (As := [.int (xs (i + 1).toNatClampNeg)]) (rest := []) C0 hK hA (by decide) gw1333 gw1334 gw1335 dL_law_231 ⟨by decide +kernel, by decide +kernel⟩ run2 L1.ct.1 L1.ct.2 rfl (Nat.le_of_ble_eq_true rfl) (Nat.le_of_ble_eq_true rfl) (by omega) (by omega) wd (fun H locs cells slots wd => ?_)
  show W p l e room_1 s m #[Value.ref b] below meth c H locs cells slots (lw_Z below #[Value.ref b] s) (F0 m 234 ls [.int w2])
  refine lv_pop hx hb dL_law_234 rfl ?_
  refine lv_goto (tgt := 884) hx hb dL_law_235 (by decide) ?_
  exact kk _ _ _ _ _ _ L2 (wd.up (by omega))
set_option maxHeartbeats 2000000 in
theorem lo_on {p : Program} {l : Launch} {e : Env} {s : State} {m : MethodId} {below : List Frame} {meth : Method} {c : Code} {b L : Nat} {xs : Nat → Int32} {D : va_G} {cy : Nat → ClassId} {A : Nat → Prop} (C0 : lw_At p s m meth c b L xs) (hK : xK D cy s) (hAe : A = fun q : Nat => s.heap.size ≤ q) {j x t qo qa bA : Nat} {B : Nat → Nat} {i : Int32} {σ : ps} {ls : Array Slot} {H : Heap} {locs : List Loc} {cells slots : Nat} (hi : i.toInt = 6 * (j : Int)) (hL : 6 * j + 6 ≤ L) (hL2 : L ≤ 3072) (LI0 : LI s.heap.size j x t qo qa bA B σ) (wd : WdL D cy A s j [(4, .int i), (3, .ref qo), (2, .ref t), (1, .ref x), (0, .ref b)] σ ls H locs cells slots) (kk : ∀ (σ' : ps) (ls : Array Slot) (H : Heap) (locs : List Loc) (cells slots : Nat), LI s.heap.size (j + 1) x t qo qa bA B σ' → WdL D cy A s (j + 1) [(4, .int i), (3, .ref qo), (2, .ref t), (1, .ref x), (0, .ref b)] σ' ls H locs cells slots → W p l e room_1 s m #[Value.ref b] below meth c H locs cells slots (lw_Z below #[Value.ref b] s) (F0 m 884 ls [])) : W p l e room_1 s m #[Value.ref b] below meth c H locs cells slots (lw_Z below #[Value.ref b] s) (F0 m 238 ls []) := by
  obtain ⟨hx, hb, hr, hml, hown, hts9, hX, hbl, hlocks, hgv⟩ := id C0
  have hA : ∀ q : Nat, s.heap.size ≤ q → A q := fun q h => by rw [hAe]; exact h
  have hbA : ¬ A b := by rw [hAe]; exact Nat.not_le.mpr hbl
  have a1 : (i + 1).toInt = 6 * (j : Int) + 1 := by rw [n_add (by rw [hi]; show _ ≤ _ + (1 : Int); omega) (by rw [hi]; show _ + (1 : Int) ≤ _; omega), hi]; rfl
  have a2 : (i + 2).toInt = 6 * (j : Int) + 2 := by rw [n_add (by rw [hi]; show _ ≤ _ + (2 : Int); omega) (by rw [hi]; show _ + (2 : Int) ≤ _; omega), hi]; rfl
  have a3 : (i + 3).toInt = 6 * (j : Int) + 3 := by rw [n_add (by rw [hi]; show _ ≤ _ + (3 : Int); omega) (by rw [hi]; show _ + (3 : Int) ≤ _; omega), hi]; rfl
  have a4 : (i + 4).toInt = 6 * (j : Int) + 4 := by rw [n_add (by rw [hi]; show _ ≤ _ + (4 : Int); omega) (by rw [hi]; show _ + (4 : Int) ≤ _; omega), hi]; rfl
  have a5 : (i + 5).toInt = 6 * (j : Int) + 5 := by rw [n_add (by rw [hi]; show _ ≤ _ + (5 : Int); omega) (by rw [hi]; show _ + (5 : Int) ≤ _; omega), hi]; rfl
  have hj : j ≤ 600 := by omega
  refine lv_aload_n hx hb dL_law_238 rfl (lv_at wd.1 3 rfl) ?_
  refine lv_aload_n hx hb dL_law_239 rfl (lv_at wd.1 4 rfl) ?_
  refine lv_iload hx hb dL_law_240 (lv_at wd.1 0 rfl) ?_
  refine lv_iconst (v := 1) hx hb dL_law_242 (by decide) ?_
  refine lv_iadd hx hb dL_law_243 ?_
  refine va_sld hx hb hX hbl hbA wd.2.2.2.1 (vpin (i := i + 1) (by rw [a1]; omega) (by rw [a1]; omega)) dL_law_244 ?_
  refine lv_aload_n hx hb dL_law_245 rfl (lv_at wd.1 4 rfl) ?_
  refine lv_iload hx hb dL_law_246 (lv_at wd.1 0 rfl) ?_
  refine lv_iconst (v := 2) hx hb dL_law_248 (by decide) ?_
  refine lv_iadd hx hb dL_law_249 ?_
  refine va_sld hx hb hX hbl hbA wd.2.2.2.1 (vpin (i := i + 2) (by rw [a2]; omega) (by rw [a2]; omega)) dL_law_250 ?_
  obtain ⟨n1, r1, σ1, run1, w1, er1, L1⟩ := cs_on (a := (xs (i + 1).toNatClampNeg)) (b := (xs (i + 2).toNatClampNeg)) LI0
  subst er1
  have rm1 := L1.rm
  refine lwc (k := 91) (As := [.int (xs (i + 1).toNatClampNeg), .int (xs (i + 2).toNatClampNeg)]) (rest := []) C0 hK hA (by decide) gw500 gw501 gw502 dL_law_251 ⟨by decide +kernel, by decide +kernel⟩ run1 LI0.cx.1 LI0.cx.2 rfl (Nat.le_of_ble_eq_true rfl) (Nat.le_of_ble_eq_true rfl) (by omega) (by omega) wd (fun H locs cells slots wd => ?_)
  show W p l e room_1 s m #[Value.ref b] below meth c H locs cells slots (lw_Z below #[Value.ref b] s) (F0 m 254 ls [.int w1])
  refine lv_pop hx hb dL_law_254 rfl ?_
  refine lv_aload_n hx hb dL_law_255 rfl (lv_at wd.1 2 rfl) ?_
  refine lv_aload_n hx hb dL_law_256 rfl (lv_at wd.1 4 rfl) ?_
  refine lv_iload hx hb dL_law_257 (lv_at wd.1 0 rfl) ?_
  refine lv_iconst (v := 1) hx hb dL_law_259 (by decide) ?_
  refine lv_iadd hx hb dL_law_260 ?_
  refine va_sld hx hb hX hbl hbA wd.2.2.2.1 (vpin (i := i + 1) (by rw [a1]; omega) (by rw [a1]; omega)) dL_law_261 ?_
  refine lv_aload_n hx hb dL_law_262 rfl (lv_at wd.1 4 rfl) ?_
  refine lv_iload hx hb dL_law_263 (lv_at wd.1 0 rfl) ?_
  refine lv_iconst (v := 2) hx hb dL_law_265 (by decide) ?_
  refine lv_iadd hx hb dL_law_266 ?_
  refine va_sld hx hb hX hbl hbA wd.2.2.2.1 (vpin (i := i + 2) (by rw [a2]; omega) (by rw [a2]; omega)) dL_law_267 ?_
  obtain ⟨n2, r2, σ2, run2, er2, L2⟩ := rs_on (a := (xs (i + 1).toNatClampNeg)) (b := (xs (i + 2).toNatClampNeg)) L1
  subst er2
  have rm2 := L2.rm
  refine lwc (k := 180) (As := [.int (xs (i + 1).toNatClampNeg), .int (xs (i + 2).toNatClampNeg)]) (rest := []) C0 hK hA (by decide) gw1511 gw1512 gw1513 dL_law_268 ⟨by decide +kernel, by decide +kernel⟩ run2 L1.ct.1 L1.ct.2 rfl (Nat.le_of_ble_eq_true rfl) (Nat.le_of_ble_eq_true rfl) (by omega) (by omega) wd (fun H locs cells slots wd => ?_)
  show W p l e room_1 s m #[Value.ref b] below meth c H locs cells slots (lw_Z below #[Value.ref b] s) (F0 m 271 ls [.int w1])
  refine lv_pop hx hb dL_law_271 rfl ?_
  refine lv_goto (tgt := 884) hx hb dL_law_272 (by decide) ?_
  exact kk _ _ _ _ _ _ L2 (wd.up (by omega))
set_option maxHeartbeats 2000000 in
theorem lo_off {p : Program} {l : Launch} {e : Env} {s : State} {m : MethodId} {below : List Frame} {meth : Method} {c : Code} {b L : Nat} {xs : Nat → Int32} {D : va_G} {cy : Nat → ClassId} {A : Nat → Prop} (C0 : lw_At p s m meth c b L xs) (hK : xK D cy s) (hAe : A = fun q : Nat => s.heap.size ≤ q) {j x t qo qa bA : Nat} {B : Nat → Nat} {i : Int32} {σ : ps} {ls : Array Slot} {H : Heap} {locs : List Loc} {cells slots : Nat} (hi : i.toInt = 6 * (j : Int)) (hL : 6 * j + 6 ≤ L) (hL2 : L ≤ 3072) (LI0 : LI s.heap.size j x t qo qa bA B σ) (wd : WdL D cy A s j [(4, .int i), (3, .ref qo), (2, .ref t), (1, .ref x), (0, .ref b)] σ ls H locs cells slots) (kk : ∀ (σ' : ps) (ls : Array Slot) (H : Heap) (locs : List Loc) (cells slots : Nat), LI s.heap.size (j + 1) x t qo qa bA B σ' → WdL D cy A s (j + 1) [(4, .int i), (3, .ref qo), (2, .ref t), (1, .ref x), (0, .ref b)] σ' ls H locs cells slots → W p l e room_1 s m #[Value.ref b] below meth c H locs cells slots (lw_Z below #[Value.ref b] s) (F0 m 884 ls [])) : W p l e room_1 s m #[Value.ref b] below meth c H locs cells slots (lw_Z below #[Value.ref b] s) (F0 m 275 ls []) := by
  obtain ⟨hx, hb, hr, hml, hown, hts9, hX, hbl, hlocks, hgv⟩ := id C0
  have hA : ∀ q : Nat, s.heap.size ≤ q → A q := fun q h => by rw [hAe]; exact h
  have hbA : ¬ A b := by rw [hAe]; exact Nat.not_le.mpr hbl
  have a1 : (i + 1).toInt = 6 * (j : Int) + 1 := by rw [n_add (by rw [hi]; show _ ≤ _ + (1 : Int); omega) (by rw [hi]; show _ + (1 : Int) ≤ _; omega), hi]; rfl
  have a2 : (i + 2).toInt = 6 * (j : Int) + 2 := by rw [n_add (by rw [hi]; show _ ≤ _ + (2 : Int); omega) (by rw [hi]; show _ + (2 : Int) ≤ _; omega), hi]; rfl
  have a3 : (i + 3).toInt = 6 * (j : Int) + 3 := by rw [n_add (by rw [hi]; show _ ≤ _ + (3 : Int); omega) (by rw [hi]; show _ + (3 : Int) ≤ _; omega), hi]; rfl
  have a4 : (i + 4).toInt = 6 * (j : Int) + 4 := by rw [n_add (by rw [hi]; show _ ≤ _ + (4 : Int); omega) (by rw [hi]; show _ + (4 : Int) ≤ _; omega), hi]; rfl
  have a5 : (i + 5).toInt = 6 * (j : Int) + 5 := by rw [n_add (by rw [hi]; show _ ≤ _ + (5 : Int); omega) (by rw [hi]; show _ + (5 : Int) ≤ _; omega), hi]; rfl
  have hj : j ≤ 600 := by omega
  refine lv_aload_n hx hb dL_law_275 rfl (lv_at wd.1 3 rfl) ?_
  refine lv_aload_n hx hb dL_law_276 rfl (lv_at wd.1 4 rfl) ?_
  refine lv_iload hx hb dL_law_277 (lv_at wd.1 0 rfl) ?_
  refine lv_iconst (v := 1) hx hb dL_law_279 (by decide) ?_
  refine lv_iadd hx hb dL_law_280 ?_
  refine va_sld hx hb hX hbl hbA wd.2.2.2.1 (vpin (i := i + 1) (by rw [a1]; omega) (by rw [a1]; omega)) dL_law_281 ?_
  refine lv_aload_n hx hb dL_law_282 rfl (lv_at wd.1 4 rfl) ?_
  refine lv_iload hx hb dL_law_283 (lv_at wd.1 0 rfl) ?_
  refine lv_iconst (v := 2) hx hb dL_law_285 (by decide) ?_
  refine lv_iadd hx hb dL_law_286 ?_
  refine va_sld hx hb hX hbl hbA wd.2.2.2.1 (vpin (i := i + 2) (by rw [a2]; omega) (by rw [a2]; omega)) dL_law_287 ?_
  refine lv_if_eq (tgt := 295) hx hb dL_law_288 (by decide) (fun cc => ?_) (fun cc => ?_)
  · refine lv_iconst (v := 0) hx hb dL_law_295 (by decide) ?_
    obtain ⟨n1, r1, σ1, run1, w1, er1, L1⟩ := cs_off (a := (xs (i + 1).toNatClampNeg)) (b := 0) LI0 (by decide)
    subst er1
    have rm1 := L1.rm
    refine lwc (k := 92) (As := [.int (xs (i + 1).toNatClampNeg), .int 0]) (rest := []) C0 hK hA (by decide) gw527 gw528 gw529 dL_law_296 ⟨by decide +kernel, by decide +kernel⟩ run1 LI0.cx.1 LI0.cx.2 rfl (Nat.le_of_ble_eq_true rfl) (Nat.le_of_ble_eq_true rfl) (by omega) (by omega) wd (fun H locs cells slots wd => ?_)
    show W p l e room_1 s m #[Value.ref b] below meth c H locs cells slots (lw_Z below #[Value.ref b] s) (F0 m 299 ls [.int w1])
    refine lv_aload_n hx hb dL_law_299 rfl (lv_at wd.1 2 rfl) ?_
    refine lv_aload_n hx hb dL_law_300 rfl (lv_at wd.1 4 rfl) ?_
    refine lv_iload hx hb dL_law_301 (lv_at wd.1 0 rfl) ?_
    refine lv_iconst (v := 1) hx hb dL_law_303 (by decide) ?_
    refine lv_iadd hx hb dL_law_304 ?_
    refine va_sld hx hb hX hbl hbA wd.2.2.2.1 (vpin (i := i + 1) (by rw [a1]; omega) (by rw [a1]; omega)) dL_law_305 ?_
    refine lv_aload_n hx hb dL_law_306 rfl (lv_at wd.1 4 rfl) ?_
    refine lv_iload hx hb dL_law_307 (lv_at wd.1 0 rfl) ?_
    refine lv_iconst (v := 2) hx hb dL_law_309 (by decide) ?_
    refine lv_iadd hx hb dL_law_310 ?_
    refine va_sld hx hb hX hbl hbA wd.2.2.2.1 (vpin (i := i + 2) (by rw [a2]; omega) (by rw [a2]; omega)) dL_law_311 ?_
    refine lv_if_eq (tgt := 319) hx hb dL_law_312 (by decide) (fun cc => ?_) (fun cc => ?_)
    · refine lv_iconst (v := 0) hx hb dL_law_319 (by decide) ?_
      obtain ⟨n2, r2, σ2, run2, er2, L2⟩ := rs_off (a := (xs (i + 1).toNatClampNeg)) (b := 0) hj (by decide) L1
      subst er2
      have rm2 := L2.rm
      refine lwc (k := 182) (As := [.int (xs (i + 1).toNatClampNeg), .int 0]) (rest := [.int w1]) C0 hK hA (by decide) gw1524 gw1525 gw1526 dL_law_320 ⟨by decide +kernel, by decide +kernel⟩ run2 L1.ct.1 L1.ct.2 rfl (Nat.le_of_ble_eq_true rfl) (Nat.le_of_ble_eq_true rfl) (by omega) (by omega) wd (fun H locs cells slots wd => ?_)
      show W p l e room_1 s m #[Value.ref b] below meth c H locs cells slots (lw_Z below #[Value.ref b] s) (F0 m 323 ls [.int w1, .int w1])
      refine lv_icmp_eq (tgt := 884) hx hb dL_law_323 (by decide) (fun cc => ?_) (fun cc => absurd rfl cc)
      exact kk _ _ _ _ _ _ L2 (wd.up (by omega))
    · refine lv_iconst (v := 1) hx hb dL_law_315 (by decide) ?_
      refine lv_goto (tgt := 320) hx hb dL_law_316 (by decide) ?_
      obtain ⟨n2, r2, σ2, run2, er2, L2⟩ := rs_off (a := (xs (i + 1).toNatClampNeg)) (b := 1) hj (by decide) L1
      subst er2
      have rm2 := L2.rm
      refine lwc (k := 182) (As := [.int (xs (i + 1).toNatClampNeg), .int 1]) (rest := [.int w1]) C0 hK hA (by decide) gw1524 gw1525 gw1526 dL_law_320 ⟨by decide +kernel, by decide +kernel⟩ run2 L1.ct.1 L1.ct.2 rfl (Nat.le_of_ble_eq_true rfl) (Nat.le_of_ble_eq_true rfl) (by omega) (by omega) wd (fun H locs cells slots wd => ?_)
      show W p l e room_1 s m #[Value.ref b] below meth c H locs cells slots (lw_Z below #[Value.ref b] s) (F0 m 323 ls [.int w1, .int w1])
      refine lv_icmp_eq (tgt := 884) hx hb dL_law_323 (by decide) (fun cc => ?_) (fun cc => absurd rfl cc)
      exact kk _ _ _ _ _ _ L2 (wd.up (by omega))
  · refine lv_iconst (v := 1) hx hb dL_law_291 (by decide) ?_
    refine lv_goto (tgt := 296) hx hb dL_law_292 (by decide) ?_
    obtain ⟨n1, r1, σ1, run1, w1, er1, L1⟩ := cs_off (a := (xs (i + 1).toNatClampNeg)) (b := 1) LI0 (by decide)
    subst er1
    have rm1 := L1.rm
    refine lwc (k := 92) (As := [.int (xs (i + 1).toNatClampNeg), .int 1]) (rest := []) C0 hK hA (by decide) gw527 gw528 gw529 dL_law_296 ⟨by decide +kernel, by decide +kernel⟩ run1 LI0.cx.1 LI0.cx.2 rfl (Nat.le_of_ble_eq_true rfl) (Nat.le_of_ble_eq_true rfl) (by omega) (by omega) wd (fun H locs cells slots wd => ?_)
    show W p l e room_1 s m #[Value.ref b] below meth c H locs cells slots (lw_Z below #[Value.ref b] s) (F0 m 299 ls [.int w1])
    refine lv_aload_n hx hb dL_law_299 rfl (lv_at wd.1 2 rfl) ?_
    refine lv_aload_n hx hb dL_law_300 rfl (lv_at wd.1 4 rfl) ?_
    refine lv_iload hx hb dL_law_301 (lv_at wd.1 0 rfl) ?_
    refine lv_iconst (v := 1) hx hb dL_law_303 (by decide) ?_
    refine lv_iadd hx hb dL_law_304 ?_
    refine va_sld hx hb hX hbl hbA wd.2.2.2.1 (vpin (i := i + 1) (by rw [a1]; omega) (by rw [a1]; omega)) dL_law_305 ?_
    refine lv_aload_n hx hb dL_law_306 rfl (lv_at wd.1 4 rfl) ?_
    refine lv_iload hx hb dL_law_307 (lv_at wd.1 0 rfl) ?_
    refine lv_iconst (v := 2) hx hb dL_law_309 (by decide) ?_
    refine lv_iadd hx hb dL_law_310 ?_
    refine va_sld hx hb hX hbl hbA wd.2.2.2.1 (vpin (i := i + 2) (by rw [a2]; omega) (by rw [a2]; omega)) dL_law_311 ?_
    refine lv_if_eq (tgt := 319) hx hb dL_law_312 (by decide) (fun cc => ?_) (fun cc => ?_)
    · refine lv_iconst (v := 0) hx hb dL_law_319 (by decide) ?_
      obtain ⟨n2, r2, σ2, run2, er2, L2⟩ := rs_off (a := (xs (i + 1).toNatClampNeg)) (b := 0) hj (by decide) L1
      subst er2
      have rm2 := L2.rm
      refine lwc (k := 182) (As := [.int (xs (i + 1).toNatClampNeg), .int 0]) (rest := [.int w1]) C0 hK hA (by decide) gw1524 gw1525 gw1526 dL_law_320 ⟨by decide +kernel, by decide +kernel⟩ run2 L1.ct.1 L1.ct.2 rfl (Nat.le_of_ble_eq_true rfl) (Nat.le_of_ble_eq_true rfl) (by omega) (by omega) wd (fun H locs cells slots wd => ?_)
      show W p l e room_1 s m #[Value.ref b] below meth c H locs cells slots (lw_Z below #[Value.ref b] s) (F0 m 323 ls [.int w1, .int w1])
      refine lv_icmp_eq (tgt := 884) hx hb dL_law_323 (by decide) (fun cc => ?_) (fun cc => absurd rfl cc)
      exact kk _ _ _ _ _ _ L2 (wd.up (by omega))
    · refine lv_iconst (v := 1) hx hb dL_law_315 (by decide) ?_
      refine lv_goto (tgt := 320) hx hb dL_law_316 (by decide) ?_
      obtain ⟨n2, r2, σ2, run2, er2, L2⟩ := rs_off (a := (xs (i + 1).toNatClampNeg)) (b := 1) hj (by decide) L1
      subst er2
      have rm2 := L2.rm
      refine lwc (k := 182) (As := [.int (xs (i + 1).toNatClampNeg), .int 1]) (rest := [.int w1]) C0 hK hA (by decide) gw1524 gw1525 gw1526 dL_law_320 ⟨by decide +kernel, by decide +kernel⟩ run2 L1.ct.1 L1.ct.2 rfl (Nat.le_of_ble_eq_true rfl) (Nat.le_of_ble_eq_true rfl) (by omega) (by omega) wd (fun H locs cells slots wd => ?_)
      show W p l e room_1 s m #[Value.ref b] below meth c H locs cells slots (lw_Z below #[Value.ref b] s) (F0 m 323 ls [.int w1, .int w1])
      refine lv_icmp_eq (tgt := 884) hx hb dL_law_323 (by decide) (fun cc => ?_) (fun cc => absurd rfl cc)
      exact kk _ _ _ _ _ _ L2 (wd.up (by omega))
set_option maxHeartbeats 2000000 in
theorem lo_claim {p : Program} {l : Launch} {e : Env} {s : State} {m : MethodId} {below : List Frame} {meth : Method} {c : Code} {b L : Nat} {xs : Nat → Int32} {D : va_G} {cy : Nat → ClassId} {A : Nat → Prop} (C0 : lw_At p s m meth c b L xs) (hK : xK D cy s) (hAe : A = fun q : Nat => s.heap.size ≤ q) {j x t qo qa bA : Nat} {B : Nat → Nat} {i : Int32} {σ : ps} {ls : Array Slot} {H : Heap} {locs : List Loc} {cells slots : Nat} (hi : i.toInt = 6 * (j : Int)) (hL : 6 * j + 6 ≤ L) (hL2 : L ≤ 3072) (LI0 : LI s.heap.size j x t qo qa bA B σ) (wd : WdL D cy A s j [(4, .int i), (3, .ref qo), (2, .ref t), (1, .ref x), (0, .ref b)] σ ls H locs cells slots) (kk : ∀ (σ' : ps) (ls : Array Slot) (H : Heap) (locs : List Loc) (cells slots : Nat), LI s.heap.size (j + 1) x t qo qa bA B σ' → WdL D cy A s (j + 1) [(4, .int i), (3, .ref qo), (2, .ref t), (1, .ref x), (0, .ref b)] σ' ls H locs cells slots → W p l e room_1 s m #[Value.ref b] below meth c H locs cells slots (lw_Z below #[Value.ref b] s) (F0 m 884 ls [])) : W p l e room_1 s m #[Value.ref b] below meth c H locs cells slots (lw_Z below #[Value.ref b] s) (F0 m 328 ls []) := by
  obtain ⟨hx, hb, hr, hml, hown, hts9, hX, hbl, hlocks, hgv⟩ := id C0
  have hA : ∀ q : Nat, s.heap.size ≤ q → A q := fun q h => by rw [hAe]; exact h
  have hbA : ¬ A b := by rw [hAe]; exact Nat.not_le.mpr hbl
  have a1 : (i + 1).toInt = 6 * (j : Int) + 1 := by rw [n_add (by rw [hi]; show _ ≤ _ + (1 : Int); omega) (by rw [hi]; show _ + (1 : Int) ≤ _; omega), hi]; rfl
  have a2 : (i + 2).toInt = 6 * (j : Int) + 2 := by rw [n_add (by rw [hi]; show _ ≤ _ + (2 : Int); omega) (by rw [hi]; show _ + (2 : Int) ≤ _; omega), hi]; rfl
  have a3 : (i + 3).toInt = 6 * (j : Int) + 3 := by rw [n_add (by rw [hi]; show _ ≤ _ + (3 : Int); omega) (by rw [hi]; show _ + (3 : Int) ≤ _; omega), hi]; rfl
  have a4 : (i + 4).toInt = 6 * (j : Int) + 4 := by rw [n_add (by rw [hi]; show _ ≤ _ + (4 : Int); omega) (by rw [hi]; show _ + (4 : Int) ≤ _; omega), hi]; rfl
  have a5 : (i + 5).toInt = 6 * (j : Int) + 5 := by rw [n_add (by rw [hi]; show _ ≤ _ + (5 : Int); omega) (by rw [hi]; show _ + (5 : Int) ≤ _; omega), hi]; rfl
  have hj : j ≤ 600 := by omega
  refine lv_aload_n hx hb dL_law_328 rfl (lv_at wd.1 3 rfl) ?_
  refine lv_aload_n hx hb dL_law_329 rfl (lv_at wd.1 4 rfl) ?_
  refine lv_iload hx hb dL_law_330 (lv_at wd.1 0 rfl) ?_
  refine lv_iconst (v := 1) hx hb dL_law_332 (by decide) ?_
  refine lv_iadd hx hb dL_law_333 ?_
  refine va_sld hx hb hX hbl hbA wd.2.2.2.1 (vpin (i := i + 1) (by rw [a1]; omega) (by rw [a1]; omega)) dL_law_334 ?_
  obtain ⟨n1, r1, σ1, run1, ⟨w1, er1⟩, L1⟩ := cs_claim (a := (xs (i + 1).toNatClampNeg)) LI0
  subst er1
  have rm1 := L1.rm
  refine lwc (k := 93) (As := [.int (xs (i + 1).toNatClampNeg)]) (rest := []) C0 hK hA (by decide) gw573 gw574 gw575 dL_law_335 ⟨by decide +kernel, by decide +kernel⟩ run1 LI0.cx.1 LI0.cx.2 rfl (Nat.le_of_ble_eq_true rfl) (Nat.le_of_ble_eq_true rfl) (by omega) (by omega) wd (fun H locs cells slots wd => ?_)
  show W p l e room_1 s m #[Value.ref b] below meth c H locs cells slots (lw_Z below #[Value.ref b] s) (F0 m 338 ls [.int w1])
  refine lv_pop hx hb dL_law_338 rfl ?_
  refine lv_aload_n hx hb dL_law_339 rfl (lv_at wd.1 2 rfl) ?_
  refine lv_aload_n hx hb dL_law_340 rfl (lv_at wd.1 4 rfl) ?_
  refine lv_iload hx hb dL_law_341 (lv_at wd.1 0 rfl) ?_
  refine lv_iconst (v := 1) hx hb dL_law_343 (by decide) ?_
  refine lv_iadd hx hb dL_law_344 ?_
  refine va_sld hx hb hX hbl hbA wd.2.2.2.1 (vpin (i := i + 1) (by rw [a1]; omega) (by rw [a1]; omega)) dL_law_345 ?_
  obtain ⟨n2, r2, σ2, run2, ⟨w2, er2⟩, L2⟩ := rs_claim (a := (xs (i + 1).toNatClampNeg)) L1
  subst er2
  have rm2 := L2.rm
  refine lwc (k := 183) (As := [.int (xs (i + 1).toNatClampNeg)]) (rest := []) C0 hK hA (by decide) gw1528 gw1529 gw1530 dL_law_346 ⟨by decide +kernel, by decide +kernel⟩ run2 L1.ct.1 L1.ct.2 rfl (Nat.le_of_ble_eq_true rfl) (Nat.le_of_ble_eq_true rfl) (by omega) (by omega) wd (fun H locs cells slots wd => ?_)
  show W p l e room_1 s m #[Value.ref b] below meth c H locs cells slots (lw_Z below #[Value.ref b] s) (F0 m 349 ls [.int w2])
  refine lv_pop hx hb dL_law_349 rfl ?_
  refine lv_goto (tgt := 884) hx hb dL_law_350 (by decide) ?_
  exact kk _ _ _ _ _ _ L2 (wd.up (by omega))
set_option maxHeartbeats 2000000 in
theorem lo_service {p : Program} {l : Launch} {e : Env} {s : State} {m : MethodId} {below : List Frame} {meth : Method} {c : Code} {b L : Nat} {xs : Nat → Int32} {D : va_G} {cy : Nat → ClassId} {A : Nat → Prop} (C0 : lw_At p s m meth c b L xs) (hK : xK D cy s) (hAe : A = fun q : Nat => s.heap.size ≤ q) {j x t qo qa bA : Nat} {B : Nat → Nat} {i : Int32} {σ : ps} {ls : Array Slot} {H : Heap} {locs : List Loc} {cells slots : Nat} (hi : i.toInt = 6 * (j : Int)) (hL : 6 * j + 6 ≤ L) (hL2 : L ≤ 3072) (LI0 : LI s.heap.size j x t qo qa bA B σ) (wd : WdL D cy A s j [(4, .int i), (3, .ref qo), (2, .ref t), (1, .ref x), (0, .ref b)] σ ls H locs cells slots) (kk : ∀ (σ' : ps) (ls : Array Slot) (H : Heap) (locs : List Loc) (cells slots : Nat), LI s.heap.size (j + 1) x t qo qa bA B σ' → WdL D cy A s (j + 1) [(4, .int i), (3, .ref qo), (2, .ref t), (1, .ref x), (0, .ref b)] σ' ls H locs cells slots → W p l e room_1 s m #[Value.ref b] below meth c H locs cells slots (lw_Z below #[Value.ref b] s) (F0 m 884 ls [])) : W p l e room_1 s m #[Value.ref b] below meth c H locs cells slots (lw_Z below #[Value.ref b] s) (F0 m 353 ls []) := by
  obtain ⟨hx, hb, hr, hml, hown, hts9, hX, hbl, hlocks, hgv⟩ := id C0
  have hA : ∀ q : Nat, s.heap.size ≤ q → A q := fun q h => by rw [hAe]; exact h
  have hbA : ¬ A b := by rw [hAe]; exact Nat.not_le.mpr hbl
  have a1 : (i + 1).toInt = 6 * (j : Int) + 1 := by rw [n_add (by rw [hi]; show _ ≤ _ + (1 : Int); omega) (by rw [hi]; show _ + (1 : Int) ≤ _; omega), hi]; rfl
  have a2 : (i + 2).toInt = 6 * (j : Int) + 2 := by rw [n_add (by rw [hi]; show _ ≤ _ + (2 : Int); omega) (by rw [hi]; show _ + (2 : Int) ≤ _; omega), hi]; rfl
  have a3 : (i + 3).toInt = 6 * (j : Int) + 3 := by rw [n_add (by rw [hi]; show _ ≤ _ + (3 : Int); omega) (by rw [hi]; show _ + (3 : Int) ≤ _; omega), hi]; rfl
  have a4 : (i + 4).toInt = 6 * (j : Int) + 4 := by rw [n_add (by rw [hi]; show _ ≤ _ + (4 : Int); omega) (by rw [hi]; show _ + (4 : Int) ≤ _; omega), hi]; rfl
  have a5 : (i + 5).toInt = 6 * (j : Int) + 5 := by rw [n_add (by rw [hi]; show _ ≤ _ + (5 : Int); omega) (by rw [hi]; show _ + (5 : Int) ≤ _; omega), hi]; rfl
  have hj : j ≤ 600 := by omega
  refine lv_aload_n hx hb dL_law_353 rfl (lv_at wd.1 3 rfl) ?_
  refine lv_aload_n hx hb dL_law_354 rfl (lv_at wd.1 4 rfl) ?_
  refine lv_iload hx hb dL_law_355 (lv_at wd.1 0 rfl) ?_
  refine lv_iconst (v := 1) hx hb dL_law_357 (by decide) ?_
  refine lv_iadd hx hb dL_law_358 ?_
  refine va_sld hx hb hX hbl hbA wd.2.2.2.1 (vpin (i := i + 1) (by rw [a1]; omega) (by rw [a1]; omega)) dL_law_359 ?_
  refine lv_aload_n hx hb dL_law_360 rfl (lv_at wd.1 4 rfl) ?_
  refine lv_iload hx hb dL_law_361 (lv_at wd.1 0 rfl) ?_
  refine lv_iconst (v := 2) hx hb dL_law_363 (by decide) ?_
  refine lv_iadd hx hb dL_law_364 ?_
  refine va_sld hx hb hX hbl hbA wd.2.2.2.1 (vpin (i := i + 2) (by rw [a2]; omega) (by rw [a2]; omega)) dL_law_365 ?_
  obtain ⟨n1, r1, σ1, run1, ⟨w1, er1⟩, L1⟩ := cs_service (a := (xs (i + 1).toNatClampNeg)) (b := (xs (i + 2).toNatClampNeg)) LI0
  subst er1
  have rm1 := L1.rm
  refine lwc (k := 94) (As := [.int (xs (i + 1).toNatClampNeg), .int (xs (i + 2).toNatClampNeg)]) (rest := []) C0 hK hA (by decide) gw616 gw617 gw618 dL_law_366 ⟨by decide +kernel, by decide +kernel⟩ run1 LI0.cx.1 LI0.cx.2 rfl (Nat.le_of_ble_eq_true rfl) (Nat.le_of_ble_eq_true rfl) (by omega) (by omega) wd (fun H locs cells slots wd => ?_)
  show W p l e room_1 s m #[Value.ref b] below meth c H locs cells slots (lw_Z below #[Value.ref b] s) (F0 m 369 ls [.int w1])
  refine lv_pop hx hb dL_law_369 rfl ?_
  refine lv_aload_n hx hb dL_law_370 rfl (lv_at wd.1 2 rfl) ?_
  refine lv_aload_n hx hb dL_law_371 rfl (lv_at wd.1 4 rfl) ?_
  refine lv_iload hx hb dL_law_372 (lv_at wd.1 0 rfl) ?_
  refine lv_iconst (v := 1) hx hb dL_law_374 (by decide) ?_
  refine lv_iadd hx hb dL_law_375 ?_
  refine va_sld hx hb hX hbl hbA wd.2.2.2.1 (vpin (i := i + 1) (by rw [a1]; omega) (by rw [a1]; omega)) dL_law_376 ?_
  refine lv_aload_n hx hb dL_law_377 rfl (lv_at wd.1 4 rfl) ?_
  refine lv_iload hx hb dL_law_378 (lv_at wd.1 0 rfl) ?_
  refine lv_iconst (v := 2) hx hb dL_law_380 (by decide) ?_
  refine lv_iadd hx hb dL_law_381 ?_
  refine va_sld hx hb hX hbl hbA wd.2.2.2.1 (vpin (i := i + 2) (by rw [a2]; omega) (by rw [a2]; omega)) dL_law_382 ?_
  obtain ⟨n2, r2, σ2, run2, ⟨w2, er2⟩, L2⟩ := rs_service (a := (xs (i + 1).toNatClampNeg)) (b := (xs (i + 2).toNatClampNeg)) L1
  subst er2
  have rm2 := L2.rm
  refine lwc (k := 184) (As := [.int (xs (i + 1).toNatClampNeg), .int (xs (i + 2).toNatClampNeg)]) (rest := []) C0 hK hA (by decide) gw1536 gw1537 gw1538 dL_law_383 ⟨by decide +kernel, by decide +kernel⟩ run2 L1.ct.1 L1.ct.2 rfl (Nat.le_of_ble_eq_true rfl) (Nat.le_of_ble_eq_true rfl) (by omega) (by omega) wd (fun H locs cells slots wd => ?_)
  show W p l e room_1 s m #[Value.ref b] below meth c H locs cells slots (lw_Z below #[Value.ref b] s) (F0 m 386 ls [.int w2])
  refine lv_pop hx hb dL_law_386 rfl ?_
  refine lv_goto (tgt := 884) hx hb dL_law_387 (by decide) ?_
  exact kk _ _ _ _ _ _ L2 (wd.up (by omega))
set_option maxHeartbeats 2000000 in
theorem lo_ask {p : Program} {l : Launch} {e : Env} {s : State} {m : MethodId} {below : List Frame} {meth : Method} {c : Code} {b L : Nat} {xs : Nat → Int32} {D : va_G} {cy : Nat → ClassId} {A : Nat → Prop} (C0 : lw_At p s m meth c b L xs) (hK : xK D cy s) (hAe : A = fun q : Nat => s.heap.size ≤ q) {j x t qo qa bA : Nat} {B : Nat → Nat} {i : Int32} {σ : ps} {ls : Array Slot} {H : Heap} {locs : List Loc} {cells slots : Nat} (hi : i.toInt = 6 * (j : Int)) (hL : 6 * j + 6 ≤ L) (hL2 : L ≤ 3072) (LI0 : LI s.heap.size j x t qo qa bA B σ) (wd : WdL D cy A s j [(4, .int i), (3, .ref qo), (2, .ref t), (1, .ref x), (0, .ref b)] σ ls H locs cells slots) (kk : ∀ (σ' : ps) (ls : Array Slot) (H : Heap) (locs : List Loc) (cells slots : Nat), LI s.heap.size (j + 1) x t qo qa bA B σ' → WdL D cy A s (j + 1) [(4, .int i), (3, .ref qo), (2, .ref t), (1, .ref x), (0, .ref b)] σ' ls H locs cells slots → W p l e room_1 s m #[Value.ref b] below meth c H locs cells slots (lw_Z below #[Value.ref b] s) (F0 m 884 ls [])) : W p l e room_1 s m #[Value.ref b] below meth c H locs cells slots (lw_Z below #[Value.ref b] s) (F0 m 390 ls []) := by
  obtain ⟨hx, hb, hr, hml, hown, hts9, hX, hbl, hlocks, hgv⟩ := id C0
  have hA : ∀ q : Nat, s.heap.size ≤ q → A q := fun q h => by rw [hAe]; exact h
  have hbA : ¬ A b := by rw [hAe]; exact Nat.not_le.mpr hbl
  have a1 : (i + 1).toInt = 6 * (j : Int) + 1 := by rw [n_add (by rw [hi]; show _ ≤ _ + (1 : Int); omega) (by rw [hi]; show _ + (1 : Int) ≤ _; omega), hi]; rfl
  have a2 : (i + 2).toInt = 6 * (j : Int) + 2 := by rw [n_add (by rw [hi]; show _ ≤ _ + (2 : Int); omega) (by rw [hi]; show _ + (2 : Int) ≤ _; omega), hi]; rfl
  have a3 : (i + 3).toInt = 6 * (j : Int) + 3 := by rw [n_add (by rw [hi]; show _ ≤ _ + (3 : Int); omega) (by rw [hi]; show _ + (3 : Int) ≤ _; omega), hi]; rfl
  have a4 : (i + 4).toInt = 6 * (j : Int) + 4 := by rw [n_add (by rw [hi]; show _ ≤ _ + (4 : Int); omega) (by rw [hi]; show _ + (4 : Int) ≤ _; omega), hi]; rfl
  have a5 : (i + 5).toInt = 6 * (j : Int) + 5 := by rw [n_add (by rw [hi]; show _ ≤ _ + (5 : Int); omega) (by rw [hi]; show _ + (5 : Int) ≤ _; omega), hi]; rfl
  have hj : j ≤ 600 := by omega
  refine lv_aload_n hx hb dL_law_390 rfl (lv_at wd.1 3 rfl) ?_
  refine lv_aload_n hx hb dL_law_391 rfl (lv_at wd.1 4 rfl) ?_
  refine lv_iload hx hb dL_law_392 (lv_at wd.1 0 rfl) ?_
  refine lv_iconst (v := 1) hx hb dL_law_394 (by decide) ?_
  refine lv_iadd hx hb dL_law_395 ?_
  refine va_sld hx hb hX hbl hbA wd.2.2.2.1 (vpin (i := i + 1) (by rw [a1]; omega) (by rw [a1]; omega)) dL_law_396 ?_
  refine lv_aload_n hx hb dL_law_397 rfl (lv_at wd.1 4 rfl) ?_
  refine lv_iload hx hb dL_law_398 (lv_at wd.1 0 rfl) ?_
  refine lv_iconst (v := 2) hx hb dL_law_400 (by decide) ?_
  refine lv_iadd hx hb dL_law_401 ?_
  refine va_sld hx hb hX hbl hbA wd.2.2.2.1 (vpin (i := i + 2) (by rw [a2]; omega) (by rw [a2]; omega)) dL_law_402 ?_
  obtain ⟨n1, r1, σ1, run1, ⟨w1, er1⟩, L1⟩ := cs_ask (a := (xs (i + 1).toNatClampNeg)) (b := (xs (i + 2).toNatClampNeg)) LI0
  subst er1
  have rm1 := L1.rm
  refine lwc (k := 95) (As := [.int (xs (i + 1).toNatClampNeg), .int (xs (i + 2).toNatClampNeg)]) (rest := []) C0 hK hA (by decide) gw620 gw621 gw622 dL_law_403 ⟨by decide +kernel, by decide +kernel⟩ run1 LI0.cx.1 LI0.cx.2 rfl (Nat.le_of_ble_eq_true rfl) (Nat.le_of_ble_eq_true rfl) (by omega) (by omega) wd (fun H locs cells slots wd => ?_)
  show W p l e room_1 s m #[Value.ref b] below meth c H locs cells slots (lw_Z below #[Value.ref b] s) (F0 m 406 ls [.int w1])
  refine lv_pop hx hb dL_law_406 rfl ?_
  refine lv_aload_n hx hb dL_law_407 rfl (lv_at wd.1 2 rfl) ?_
  refine lv_aload_n hx hb dL_law_408 rfl (lv_at wd.1 4 rfl) ?_
  refine lv_iload hx hb dL_law_409 (lv_at wd.1 0 rfl) ?_
  refine lv_iconst (v := 1) hx hb dL_law_411 (by decide) ?_
  refine lv_iadd hx hb dL_law_412 ?_
  refine va_sld hx hb hX hbl hbA wd.2.2.2.1 (vpin (i := i + 1) (by rw [a1]; omega) (by rw [a1]; omega)) dL_law_413 ?_
  refine lv_aload_n hx hb dL_law_414 rfl (lv_at wd.1 4 rfl) ?_
  refine lv_iload hx hb dL_law_415 (lv_at wd.1 0 rfl) ?_
  refine lv_iconst (v := 2) hx hb dL_law_417 (by decide) ?_
  refine lv_iadd hx hb dL_law_418 ?_
  refine va_sld hx hb hX hbl hbA wd.2.2.2.1 (vpin (i := i + 2) (by rw [a2]; omega) (by rw [a2]; omega)) dL_law_419 ?_
  obtain ⟨n2, r2, σ2, run2, ⟨w2, er2⟩, L2⟩ := rs_ask (a := (xs (i + 1).toNatClampNeg)) (b := (xs (i + 2).toNatClampNeg)) L1
  subst er2
  have rm2 := L2.rm
  refine lwc (k := 185) (As := [.int (xs (i + 1).toNatClampNeg), .int (xs (i + 2).toNatClampNeg)]) (rest := []) C0 hK hA (by decide) gw1540 gw1541 gw1542 dL_law_420 ⟨by decide +kernel, by decide +kernel⟩ run2 L1.ct.1 L1.ct.2 rfl (Nat.le_of_ble_eq_true rfl) (Nat.le_of_ble_eq_true rfl) (by omega) (by omega) wd (fun H locs cells slots wd => ?_)
  show W p l e room_1 s m #[Value.ref b] below meth c H locs cells slots (lw_Z below #[Value.ref b] s) (F0 m 423 ls [.int w2])
  refine lv_pop hx hb dL_law_423 rfl ?_
  refine lv_goto (tgt := 884) hx hb dL_law_424 (by decide) ?_
  exact kk _ _ _ _ _ _ L2 (wd.up (by omega))
set_option maxHeartbeats 2000000 in
theorem lo_close {p : Program} {l : Launch} {e : Env} {s : State} {m : MethodId} {below : List Frame} {meth : Method} {c : Code} {b L : Nat} {xs : Nat → Int32} {D : va_G} {cy : Nat → ClassId} {A : Nat → Prop} (C0 : lw_At p s m meth c b L xs) (hK : xK D cy s) (hAe : A = fun q : Nat => s.heap.size ≤ q) {j x t qo qa bA : Nat} {B : Nat → Nat} {i : Int32} {σ : ps} {ls : Array Slot} {H : Heap} {locs : List Loc} {cells slots : Nat} (hi : i.toInt = 6 * (j : Int)) (hL : 6 * j + 6 ≤ L) (hL2 : L ≤ 3072) (LI0 : LI s.heap.size j x t qo qa bA B σ) (wd : WdL D cy A s j [(4, .int i), (3, .ref qo), (2, .ref t), (1, .ref x), (0, .ref b)] σ ls H locs cells slots) (kk : ∀ (σ' : ps) (ls : Array Slot) (H : Heap) (locs : List Loc) (cells slots : Nat), LI s.heap.size (j + 1) x t qo qa bA B σ' → WdL D cy A s (j + 1) [(4, .int i), (3, .ref qo), (2, .ref t), (1, .ref x), (0, .ref b)] σ' ls H locs cells slots → W p l e room_1 s m #[Value.ref b] below meth c H locs cells slots (lw_Z below #[Value.ref b] s) (F0 m 884 ls [])) : W p l e room_1 s m #[Value.ref b] below meth c H locs cells slots (lw_Z below #[Value.ref b] s) (F0 m 427 ls []) := by
  obtain ⟨hx, hb, hr, hml, hown, hts9, hX, hbl, hlocks, hgv⟩ := id C0
  have hA : ∀ q : Nat, s.heap.size ≤ q → A q := fun q h => by rw [hAe]; exact h
  have hbA : ¬ A b := by rw [hAe]; exact Nat.not_le.mpr hbl
  have a1 : (i + 1).toInt = 6 * (j : Int) + 1 := by rw [n_add (by rw [hi]; show _ ≤ _ + (1 : Int); omega) (by rw [hi]; show _ + (1 : Int) ≤ _; omega), hi]; rfl
  have a2 : (i + 2).toInt = 6 * (j : Int) + 2 := by rw [n_add (by rw [hi]; show _ ≤ _ + (2 : Int); omega) (by rw [hi]; show _ + (2 : Int) ≤ _; omega), hi]; rfl
  have a3 : (i + 3).toInt = 6 * (j : Int) + 3 := by rw [n_add (by rw [hi]; show _ ≤ _ + (3 : Int); omega) (by rw [hi]; show _ + (3 : Int) ≤ _; omega), hi]; rfl
  have a4 : (i + 4).toInt = 6 * (j : Int) + 4 := by rw [n_add (by rw [hi]; show _ ≤ _ + (4 : Int); omega) (by rw [hi]; show _ + (4 : Int) ≤ _; omega), hi]; rfl
  have a5 : (i + 5).toInt = 6 * (j : Int) + 5 := by rw [n_add (by rw [hi]; show _ ≤ _ + (5 : Int); omega) (by rw [hi]; show _ + (5 : Int) ≤ _; omega), hi]; rfl
  have hj : j ≤ 600 := by omega
  refine lv_aload_n hx hb dL_law_427 rfl (lv_at wd.1 3 rfl) ?_
  refine lv_aload_n hx hb dL_law_428 rfl (lv_at wd.1 4 rfl) ?_
  refine lv_iload hx hb dL_law_429 (lv_at wd.1 0 rfl) ?_
  refine lv_iconst (v := 1) hx hb dL_law_431 (by decide) ?_
  refine lv_iadd hx hb dL_law_432 ?_
  refine va_sld hx hb hX hbl hbA wd.2.2.2.1 (vpin (i := i + 1) (by rw [a1]; omega) (by rw [a1]; omega)) dL_law_433 ?_
  refine lv_aload_n hx hb dL_law_434 rfl (lv_at wd.1 4 rfl) ?_
  refine lv_iload hx hb dL_law_435 (lv_at wd.1 0 rfl) ?_
  refine lv_iconst (v := 2) hx hb dL_law_437 (by decide) ?_
  refine lv_iadd hx hb dL_law_438 ?_
  refine va_sld hx hb hX hbl hbA wd.2.2.2.1 (vpin (i := i + 2) (by rw [a2]; omega) (by rw [a2]; omega)) dL_law_439 ?_
  obtain ⟨n1, r1, σ1, run1, ⟨w1, er1⟩, L1⟩ := cs_close (a := (xs (i + 1).toNatClampNeg)) (b := (xs (i + 2).toNatClampNeg)) LI0
  subst er1
  have rm1 := L1.rm
  refine lwc (k := 96) (As := [.int (xs (i + 1).toNatClampNeg), .int (xs (i + 2).toNatClampNeg)]) (rest := []) C0 hK hA (by decide) gw629 gw630 gw631 dL_law_440 ⟨by decide +kernel, by decide +kernel⟩ run1 LI0.cx.1 LI0.cx.2 rfl (Nat.le_of_ble_eq_true rfl) (Nat.le_of_ble_eq_true rfl) (by omega) (by omega) wd (fun H locs cells slots wd => ?_)
  show W p l e room_1 s m #[Value.ref b] below meth c H locs cells slots (lw_Z below #[Value.ref b] s) (F0 m 443 ls [.int w1])
  refine lv_pop hx hb dL_law_443 rfl ?_
  refine lv_aload_n hx hb dL_law_444 rfl (lv_at wd.1 2 rfl) ?_
  refine lv_aload_n hx hb dL_law_445 rfl (lv_at wd.1 4 rfl) ?_
  refine lv_iload hx hb dL_law_446 (lv_at wd.1 0 rfl) ?_
  refine lv_iconst (v := 1) hx hb dL_law_448 (by decide) ?_
  refine lv_iadd hx hb dL_law_449 ?_
  refine va_sld hx hb hX hbl hbA wd.2.2.2.1 (vpin (i := i + 1) (by rw [a1]; omega) (by rw [a1]; omega)) dL_law_450 ?_
  refine lv_aload_n hx hb dL_law_451 rfl (lv_at wd.1 4 rfl) ?_
  refine lv_iload hx hb dL_law_452 (lv_at wd.1 0 rfl) ?_
  refine lv_iconst (v := 2) hx hb dL_law_454 (by decide) ?_
  refine lv_iadd hx hb dL_law_455 ?_
  refine va_sld hx hb hX hbl hbA wd.2.2.2.1 (vpin (i := i + 2) (by rw [a2]; omega) (by rw [a2]; omega)) dL_law_456 ?_
  obtain ⟨n2, r2, σ2, run2, ⟨w2, er2⟩, L2⟩ := rs_close (a := (xs (i + 1).toNatClampNeg)) (b := (xs (i + 2).toNatClampNeg)) L1
  subst er2
  have rm2 := L2.rm
  refine lwc (k := 187) (As := [.int (xs (i + 1).toNatClampNeg), .int (xs (i + 2).toNatClampNeg)]) (rest := []) C0 hK hA (by decide) gw1545 gw1546 gw1547 dL_law_457 ⟨by decide +kernel, by decide +kernel⟩ run2 L1.ct.1 L1.ct.2 rfl (Nat.le_of_ble_eq_true rfl) (Nat.le_of_ble_eq_true rfl) (by omega) (by omega) wd (fun H locs cells slots wd => ?_)
  show W p l e room_1 s m #[Value.ref b] below meth c H locs cells slots (lw_Z below #[Value.ref b] s) (F0 m 460 ls [.int w2])
  refine lv_pop hx hb dL_law_460 rfl ?_
  refine lv_goto (tgt := 884) hx hb dL_law_461 (by decide) ?_
  exact kk _ _ _ _ _ _ L2 (wd.up (by omega))
set_option maxHeartbeats 2000000 in
theorem lo_go {p : Program} {l : Launch} {e : Env} {s : State} {m : MethodId} {below : List Frame} {meth : Method} {c : Code} {b L : Nat} {xs : Nat → Int32} {D : va_G} {cy : Nat → ClassId} {A : Nat → Prop} (C0 : lw_At p s m meth c b L xs) (hK : xK D cy s) (hAe : A = fun q : Nat => s.heap.size ≤ q) {j x t qo qa bA : Nat} {B : Nat → Nat} {i : Int32} {σ : ps} {ls : Array Slot} {H : Heap} {locs : List Loc} {cells slots : Nat} (hi : i.toInt = 6 * (j : Int)) (hL : 6 * j + 6 ≤ L) (hL2 : L ≤ 3072) (LI0 : LI s.heap.size j x t qo qa bA B σ) (wd : WdL D cy A s j [(4, .int i), (3, .ref qo), (2, .ref t), (1, .ref x), (0, .ref b)] σ ls H locs cells slots) (kk : ∀ (σ' : ps) (ls : Array Slot) (H : Heap) (locs : List Loc) (cells slots : Nat), LI s.heap.size (j + 1) x t qo qa bA B σ' → WdL D cy A s (j + 1) [(4, .int i), (3, .ref qo), (2, .ref t), (1, .ref x), (0, .ref b)] σ' ls H locs cells slots → W p l e room_1 s m #[Value.ref b] below meth c H locs cells slots (lw_Z below #[Value.ref b] s) (F0 m 884 ls [])) : W p l e room_1 s m #[Value.ref b] below meth c H locs cells slots (lw_Z below #[Value.ref b] s) (F0 m 464 ls []) := by
  obtain ⟨hx, hb, hr, hml, hown, hts9, hX, hbl, hlocks, hgv⟩ := id C0
  have hA : ∀ q : Nat, s.heap.size ≤ q → A q := fun q h => by rw [hAe]; exact h
  have hbA : ¬ A b := by rw [hAe]; exact Nat.not_le.mpr hbl
  have a1 : (i + 1).toInt = 6 * (j : Int) + 1 := by rw [n_add (by rw [hi]; show _ ≤ _ + (1 : Int); omega) (by rw [hi]; show _ + (1 : Int) ≤ _; omega), hi]; rfl
  have a2 : (i + 2).toInt = 6 * (j : Int) + 2 := by rw [n_add (by rw [hi]; show _ ≤ _ + (2 : Int); omega) (by rw [hi]; show _ + (2 : Int) ≤ _; omega), hi]; rfl
  have a3 : (i + 3).toInt = 6 * (j : Int) + 3 := by rw [n_add (by rw [hi]; show _ ≤ _ + (3 : Int); omega) (by rw [hi]; show _ + (3 : Int) ≤ _; omega), hi]; rfl
  have a4 : (i + 4).toInt = 6 * (j : Int) + 4 := by rw [n_add (by rw [hi]; show _ ≤ _ + (4 : Int); omega) (by rw [hi]; show _ + (4 : Int) ≤ _; omega), hi]; rfl
  have a5 : (i + 5).toInt = 6 * (j : Int) + 5 := by rw [n_add (by rw [hi]; show _ ≤ _ + (5 : Int); omega) (by rw [hi]; show _ + (5 : Int) ≤ _; omega), hi]; rfl
  have hj : j ≤ 600 := by omega
  refine lv_aload_n hx hb dL_law_464 rfl (lv_at wd.1 3 rfl) ?_
  refine lv_aload_n hx hb dL_law_465 rfl (lv_at wd.1 4 rfl) ?_
  refine lv_iload hx hb dL_law_466 (lv_at wd.1 0 rfl) ?_
  refine lv_iconst (v := 1) hx hb dL_law_468 (by decide) ?_
  refine lv_iadd hx hb dL_law_469 ?_
  refine va_sld hx hb hX hbl hbA wd.2.2.2.1 (vpin (i := i + 1) (by rw [a1]; omega) (by rw [a1]; omega)) dL_law_470 ?_
  obtain ⟨n1, r1, σ1, run1, w1, er1, L1⟩ := cs_go (a := (xs (i + 1).toNatClampNeg)) hj LI0
  subst er1
  have rm1 := L1.rm
  refine lwc (k := 101) (As := [.int (xs (i + 1).toNatClampNeg)]) (rest := []) C0 hK hA (by decide) gw861 gw862 gw863 dL_law_471 ⟨by decide +kernel, by decide +kernel⟩ run1 LI0.cx.1 LI0.cx.2 rfl (Nat.le_of_ble_eq_true rfl) (Nat.le_of_ble_eq_true rfl) (by omega) (by omega) wd (fun H locs cells slots wd => ?_)
  show W p l e room_1 s m #[Value.ref b] below meth c H locs cells slots (lw_Z below #[Value.ref b] s) (F0 m 474 ls [.int w1])
  refine lv_pop hx hb dL_law_474 rfl ?_
  refine lv_aload_n hx hb dL_law_475 rfl (lv_at wd.1 2 rfl) ?_
  refine lv_aload_n hx hb dL_law_476 rfl (lv_at wd.1 4 rfl) ?_
  refine lv_iload hx hb dL_law_477 (lv_at wd.1 0 rfl) ?_
  refine lv_iconst (v := 1) hx hb dL_law_479 (by decide) ?_
  refine lv_iadd hx hb dL_law_480 ?_
  refine va_sld hx hb hX hbl hbA wd.2.2.2.1 (vpin (i := i + 1) (by rw [a1]; omega) (by rw [a1]; omega)) dL_law_481 ?_
  obtain ⟨n2, r2, σ2, run2, er2, L2⟩ := rs_go (a := (xs (i + 1).toNatClampNeg)) hj L1
  subst er2
  have rm2 := L2.rm
  refine lwc (k := 167) (As := [.int (xs (i + 1).toNatClampNeg)]) (rest := []) C0 hK hA (by decide) gw1337 gw1338 gw1339 dL_law_482 ⟨by decide +kernel, by decide +kernel⟩ run2 L1.ct.1 L1.ct.2 rfl (Nat.le_of_ble_eq_true rfl) (Nat.le_of_ble_eq_true rfl) (by omega) (by omega) wd (fun H locs cells slots wd => ?_)
  show W p l e room_1 s m #[Value.ref b] below meth c H locs cells slots (lw_Z below #[Value.ref b] s) (F0 m 485 ls [.int w1])
  refine lv_pop hx hb dL_law_485 rfl ?_
  refine lv_goto (tgt := 884) hx hb dL_law_486 (by decide) ?_
  exact kk _ _ _ _ _ _ L2 (wd.up (by omega))
set_option maxHeartbeats 2000000 in
theorem lo_split {p : Program} {l : Launch} {e : Env} {s : State} {m : MethodId} {below : List Frame} {meth : Method} {c : Code} {b L : Nat} {xs : Nat → Int32} {D : va_G} {cy : Nat → ClassId} {A : Nat → Prop} (C0 : lw_At p s m meth c b L xs) (hK : xK D cy s) (hAe : A = fun q : Nat => s.heap.size ≤ q) {j x t qo qa bA : Nat} {B : Nat → Nat} {i : Int32} {σ : ps} {ls : Array Slot} {H : Heap} {locs : List Loc} {cells slots : Nat} (hi : i.toInt = 6 * (j : Int)) (hL : 6 * j + 6 ≤ L) (hL2 : L ≤ 3072) (LI0 : LI s.heap.size j x t qo qa bA B σ) (wd : WdL D cy A s j [(4, .int i), (3, .ref qo), (2, .ref t), (1, .ref x), (0, .ref b)] σ ls H locs cells slots) (kk : ∀ (σ' : ps) (ls : Array Slot) (H : Heap) (locs : List Loc) (cells slots : Nat), LI s.heap.size (j + 1) x t qo qa bA B σ' → WdL D cy A s (j + 1) [(4, .int i), (3, .ref qo), (2, .ref t), (1, .ref x), (0, .ref b)] σ' ls H locs cells slots → W p l e room_1 s m #[Value.ref b] below meth c H locs cells slots (lw_Z below #[Value.ref b] s) (F0 m 884 ls [])) : W p l e room_1 s m #[Value.ref b] below meth c H locs cells slots (lw_Z below #[Value.ref b] s) (F0 m 489 ls []) := by
  obtain ⟨hx, hb, hr, hml, hown, hts9, hX, hbl, hlocks, hgv⟩ := id C0
  have hA : ∀ q : Nat, s.heap.size ≤ q → A q := fun q h => by rw [hAe]; exact h
  have hbA : ¬ A b := by rw [hAe]; exact Nat.not_le.mpr hbl
  have a1 : (i + 1).toInt = 6 * (j : Int) + 1 := by rw [n_add (by rw [hi]; show _ ≤ _ + (1 : Int); omega) (by rw [hi]; show _ + (1 : Int) ≤ _; omega), hi]; rfl
  have a2 : (i + 2).toInt = 6 * (j : Int) + 2 := by rw [n_add (by rw [hi]; show _ ≤ _ + (2 : Int); omega) (by rw [hi]; show _ + (2 : Int) ≤ _; omega), hi]; rfl
  have a3 : (i + 3).toInt = 6 * (j : Int) + 3 := by rw [n_add (by rw [hi]; show _ ≤ _ + (3 : Int); omega) (by rw [hi]; show _ + (3 : Int) ≤ _; omega), hi]; rfl
  have a4 : (i + 4).toInt = 6 * (j : Int) + 4 := by rw [n_add (by rw [hi]; show _ ≤ _ + (4 : Int); omega) (by rw [hi]; show _ + (4 : Int) ≤ _; omega), hi]; rfl
  have a5 : (i + 5).toInt = 6 * (j : Int) + 5 := by rw [n_add (by rw [hi]; show _ ≤ _ + (5 : Int); omega) (by rw [hi]; show _ + (5 : Int) ≤ _; omega), hi]; rfl
  have hj : j ≤ 600 := by omega
  refine lv_aload_n hx hb dL_law_489 rfl (lv_at wd.1 3 rfl) ?_
  refine lv_aload_n hx hb dL_law_490 rfl (lv_at wd.1 4 rfl) ?_
  refine lv_iload hx hb dL_law_491 (lv_at wd.1 0 rfl) ?_
  refine lv_iconst (v := 1) hx hb dL_law_493 (by decide) ?_
  refine lv_iadd hx hb dL_law_494 ?_
  refine va_sld hx hb hX hbl hbA wd.2.2.2.1 (vpin (i := i + 1) (by rw [a1]; omega) (by rw [a1]; omega)) dL_law_495 ?_
  obtain ⟨n1, r1, σ1, run1, er1, L1⟩ := cs_split (a := (xs (i + 1).toNatClampNeg)) LI0
  subst er1
  have rm1 := L1.rm
  refine lwc (k := 102) (As := [.int (xs (i + 1).toNatClampNeg)]) (rest := []) C0 hK hA (by decide) gw955 gw956 gw957 dL_law_496 ⟨by decide +kernel, by decide +kernel⟩ run1 LI0.cx.1 LI0.cx.2 rfl (Nat.le_of_ble_eq_true rfl) (Nat.le_of_ble_eq_true rfl) (by omega) (by omega) wd (fun H locs cells slots wd => ?_)
  show W p l e room_1 s m #[Value.ref b] below meth c H locs cells slots (lw_Z below #[Value.ref b] s) (F0 m 499 ls [])
  refine lv_aload_n hx hb dL_law_499 rfl (lv_at wd.1 2 rfl) ?_
  refine lv_aload_n hx hb dL_law_500 rfl (lv_at wd.1 4 rfl) ?_
  refine lv_iload hx hb dL_law_501 (lv_at wd.1 0 rfl) ?_
  refine lv_iconst (v := 1) hx hb dL_law_503 (by decide) ?_
  refine lv_iadd hx hb dL_law_504 ?_
  refine va_sld hx hb hX hbl hbA wd.2.2.2.1 (vpin (i := i + 1) (by rw [a1]; omega) (by rw [a1]; omega)) dL_law_505 ?_
  obtain ⟨n2, r2, σ2, run2, er2, L2⟩ := rs_split (a := (xs (i + 1).toNatClampNeg)) L1
  subst er2
  have rm2 := L2.rm
  refine lwc (k := 188) (As := [.int (xs (i + 1).toNatClampNeg)]) (rest := []) C0 hK hA (by decide) gw1553 gw1554 gw1555 dL_law_506 ⟨by decide +kernel, by decide +kernel⟩ run2 L1.ct.1 L1.ct.2 rfl (Nat.le_of_ble_eq_true rfl) (Nat.le_of_ble_eq_true rfl) (by omega) (by omega) wd (fun H locs cells slots wd => ?_)
  show W p l e room_1 s m #[Value.ref b] below meth c H locs cells slots (lw_Z below #[Value.ref b] s) (F0 m 509 ls [])
  refine lv_goto (tgt := 884) hx hb dL_law_509 (by decide) ?_
  exact kk _ _ _ _ _ _ L2 (wd.up (by omega))
set_option maxHeartbeats 2000000 in
theorem lo_join {p : Program} {l : Launch} {e : Env} {s : State} {m : MethodId} {below : List Frame} {meth : Method} {c : Code} {b L : Nat} {xs : Nat → Int32} {D : va_G} {cy : Nat → ClassId} {A : Nat → Prop} (C0 : lw_At p s m meth c b L xs) (hK : xK D cy s) (hAe : A = fun q : Nat => s.heap.size ≤ q) {j x t qo qa bA : Nat} {B : Nat → Nat} {i : Int32} {σ : ps} {ls : Array Slot} {H : Heap} {locs : List Loc} {cells slots : Nat} (hi : i.toInt = 6 * (j : Int)) (hL : 6 * j + 6 ≤ L) (hL2 : L ≤ 3072) (LI0 : LI s.heap.size j x t qo qa bA B σ) (wd : WdL D cy A s j [(4, .int i), (3, .ref qo), (2, .ref t), (1, .ref x), (0, .ref b)] σ ls H locs cells slots) (kk : ∀ (σ' : ps) (ls : Array Slot) (H : Heap) (locs : List Loc) (cells slots : Nat), LI s.heap.size (j + 1) x t qo qa bA B σ' → WdL D cy A s (j + 1) [(4, .int i), (3, .ref qo), (2, .ref t), (1, .ref x), (0, .ref b)] σ' ls H locs cells slots → W p l e room_1 s m #[Value.ref b] below meth c H locs cells slots (lw_Z below #[Value.ref b] s) (F0 m 884 ls [])) : W p l e room_1 s m #[Value.ref b] below meth c H locs cells slots (lw_Z below #[Value.ref b] s) (F0 m 512 ls []) := by
  obtain ⟨hx, hb, hr, hml, hown, hts9, hX, hbl, hlocks, hgv⟩ := id C0
  have hA : ∀ q : Nat, s.heap.size ≤ q → A q := fun q h => by rw [hAe]; exact h
  have hbA : ¬ A b := by rw [hAe]; exact Nat.not_le.mpr hbl
  have a1 : (i + 1).toInt = 6 * (j : Int) + 1 := by rw [n_add (by rw [hi]; show _ ≤ _ + (1 : Int); omega) (by rw [hi]; show _ + (1 : Int) ≤ _; omega), hi]; rfl
  have a2 : (i + 2).toInt = 6 * (j : Int) + 2 := by rw [n_add (by rw [hi]; show _ ≤ _ + (2 : Int); omega) (by rw [hi]; show _ + (2 : Int) ≤ _; omega), hi]; rfl
  have a3 : (i + 3).toInt = 6 * (j : Int) + 3 := by rw [n_add (by rw [hi]; show _ ≤ _ + (3 : Int); omega) (by rw [hi]; show _ + (3 : Int) ≤ _; omega), hi]; rfl
  have a4 : (i + 4).toInt = 6 * (j : Int) + 4 := by rw [n_add (by rw [hi]; show _ ≤ _ + (4 : Int); omega) (by rw [hi]; show _ + (4 : Int) ≤ _; omega), hi]; rfl
  have a5 : (i + 5).toInt = 6 * (j : Int) + 5 := by rw [n_add (by rw [hi]; show _ ≤ _ + (5 : Int); omega) (by rw [hi]; show _ + (5 : Int) ≤ _; omega), hi]; rfl
  have hj : j ≤ 600 := by omega
  refine lv_aload_n hx hb dL_law_512 rfl (lv_at wd.1 3 rfl) ?_
  obtain ⟨n1, r1, σ1, run1, er1, L1⟩ := cs_join  LI0
  subst er1
  have rm1 := L1.rm
  refine lwc (k := 103) (As := []) (rest := []) C0 hK hA (by decide) gw959 gw960 gw961 dL_law_513 ⟨by decide +kernel, by decide +kernel⟩ run1 LI0.cx.1 LI0.cx.2 rfl (Nat.le_of_ble_eq_true rfl) (Nat.le_of_ble_eq_true rfl) (by omega) (by omega) wd (fun H locs cells slots wd => ?_)
  show W p l e room_1 s m #[Value.ref b] below meth c H locs cells slots (lw_Z below #[Value.ref b] s) (F0 m 516 ls [])
  refine lv_aload_n hx hb dL_law_516 rfl (lv_at wd.1 2 rfl) ?_
  obtain ⟨n2, r2, σ2, run2, er2, L2⟩ := rs_join  L1
  subst er2
  have rm2 := L2.rm
  refine lwc (k := 189) (As := []) (rest := []) C0 hK hA (by decide) gw1557 gw1558 gw1559 dL_law_517 ⟨by decide +kernel, by decide +kernel⟩ run2 L1.ct.1 L1.ct.2 rfl (Nat.le_of_ble_eq_true rfl) (Nat.le_of_ble_eq_true rfl) (by omega) (by omega) wd (fun H locs cells slots wd => ?_)
  show W p l e room_1 s m #[Value.ref b] below meth c H locs cells slots (lw_Z below #[Value.ref b] s) (F0 m 520 ls [])
  refine lv_goto (tgt := 884) hx hb dL_law_520 (by decide) ?_
  exact kk _ _ _ _ _ _ L2 (wd.up (by omega))
set_option maxHeartbeats 2000000 in
theorem lo_lose {p : Program} {l : Launch} {e : Env} {s : State} {m : MethodId} {below : List Frame} {meth : Method} {c : Code} {b L : Nat} {xs : Nat → Int32} {D : va_G} {cy : Nat → ClassId} {A : Nat → Prop} (C0 : lw_At p s m meth c b L xs) (hK : xK D cy s) (hAe : A = fun q : Nat => s.heap.size ≤ q) {j x t qo qa bA : Nat} {B : Nat → Nat} {i : Int32} {σ : ps} {ls : Array Slot} {H : Heap} {locs : List Loc} {cells slots : Nat} (hi : i.toInt = 6 * (j : Int)) (hL : 6 * j + 6 ≤ L) (hL2 : L ≤ 3072) (LI0 : LI s.heap.size j x t qo qa bA B σ) (wd : WdL D cy A s j [(4, .int i), (3, .ref qo), (2, .ref t), (1, .ref x), (0, .ref b)] σ ls H locs cells slots) (kk : ∀ (σ' : ps) (ls : Array Slot) (H : Heap) (locs : List Loc) (cells slots : Nat), LI s.heap.size (j + 1) x t qo qa bA B σ' → WdL D cy A s (j + 1) [(4, .int i), (3, .ref qo), (2, .ref t), (1, .ref x), (0, .ref b)] σ' ls H locs cells slots → W p l e room_1 s m #[Value.ref b] below meth c H locs cells slots (lw_Z below #[Value.ref b] s) (F0 m 884 ls [])) : W p l e room_1 s m #[Value.ref b] below meth c H locs cells slots (lw_Z below #[Value.ref b] s) (F0 m 523 ls []) := by
  obtain ⟨hx, hb, hr, hml, hown, hts9, hX, hbl, hlocks, hgv⟩ := id C0
  have hA : ∀ q : Nat, s.heap.size ≤ q → A q := fun q h => by rw [hAe]; exact h
  have hbA : ¬ A b := by rw [hAe]; exact Nat.not_le.mpr hbl
  have a1 : (i + 1).toInt = 6 * (j : Int) + 1 := by rw [n_add (by rw [hi]; show _ ≤ _ + (1 : Int); omega) (by rw [hi]; show _ + (1 : Int) ≤ _; omega), hi]; rfl
  have a2 : (i + 2).toInt = 6 * (j : Int) + 2 := by rw [n_add (by rw [hi]; show _ ≤ _ + (2 : Int); omega) (by rw [hi]; show _ + (2 : Int) ≤ _; omega), hi]; rfl
  have a3 : (i + 3).toInt = 6 * (j : Int) + 3 := by rw [n_add (by rw [hi]; show _ ≤ _ + (3 : Int); omega) (by rw [hi]; show _ + (3 : Int) ≤ _; omega), hi]; rfl
  have a4 : (i + 4).toInt = 6 * (j : Int) + 4 := by rw [n_add (by rw [hi]; show _ ≤ _ + (4 : Int); omega) (by rw [hi]; show _ + (4 : Int) ≤ _; omega), hi]; rfl
  have a5 : (i + 5).toInt = 6 * (j : Int) + 5 := by rw [n_add (by rw [hi]; show _ ≤ _ + (5 : Int); omega) (by rw [hi]; show _ + (5 : Int) ≤ _; omega), hi]; rfl
  have hj : j ≤ 600 := by omega
  refine lv_aload_n hx hb dL_law_523 rfl (lv_at wd.1 3 rfl) ?_
  refine lv_aload_n hx hb dL_law_524 rfl (lv_at wd.1 4 rfl) ?_
  refine lv_iload hx hb dL_law_525 (lv_at wd.1 0 rfl) ?_
  refine lv_iconst (v := 1) hx hb dL_law_527 (by decide) ?_
  refine lv_iadd hx hb dL_law_528 ?_
  refine va_sld hx hb hX hbl hbA wd.2.2.2.1 (vpin (i := i + 1) (by rw [a1]; omega) (by rw [a1]; omega)) dL_law_529 ?_
  refine lv_aload_n hx hb dL_law_530 rfl (lv_at wd.1 4 rfl) ?_
  refine lv_iload hx hb dL_law_531 (lv_at wd.1 0 rfl) ?_
  refine lv_iconst (v := 2) hx hb dL_law_533 (by decide) ?_
  refine lv_iadd hx hb dL_law_534 ?_
  refine va_sld hx hb hX hbl hbA wd.2.2.2.1 (vpin (i := i + 2) (by rw [a2]; omega) (by rw [a2]; omega)) dL_law_535 ?_
  obtain ⟨n1, r1, σ1, run1, w1, er1, L1⟩ := cs_lose (a := (xs (i + 1).toNatClampNeg)) (b := (xs (i + 2).toNatClampNeg)) LI0
  subst er1
  have rm1 := L1.rm
  refine lwc (k := 97) (As := [.int (xs (i + 1).toNatClampNeg), .int (xs (i + 2).toNatClampNeg)]) (rest := []) C0 hK hA (by decide) gw637 gw638 gw639 dL_law_536 ⟨by decide +kernel, by decide +kernel⟩ run1 LI0.cx.1 LI0.cx.2 rfl (Nat.le_of_ble_eq_true rfl) (Nat.le_of_ble_eq_true rfl) (by omega) (by omega) wd (fun H locs cells slots wd => ?_)
  show W p l e room_1 s m #[Value.ref b] below meth c H locs cells slots (lw_Z below #[Value.ref b] s) (F0 m 539 ls [.int w1])
  refine lv_pop hx hb dL_law_539 rfl ?_
  refine lv_aload_n hx hb dL_law_540 rfl (lv_at wd.1 2 rfl) ?_
  refine lv_aload_n hx hb dL_law_541 rfl (lv_at wd.1 4 rfl) ?_
  refine lv_iload hx hb dL_law_542 (lv_at wd.1 0 rfl) ?_
  refine lv_iconst (v := 1) hx hb dL_law_544 (by decide) ?_
  refine lv_iadd hx hb dL_law_545 ?_
  refine va_sld hx hb hX hbl hbA wd.2.2.2.1 (vpin (i := i + 1) (by rw [a1]; omega) (by rw [a1]; omega)) dL_law_546 ?_
  refine lv_aload_n hx hb dL_law_547 rfl (lv_at wd.1 4 rfl) ?_
  refine lv_iload hx hb dL_law_548 (lv_at wd.1 0 rfl) ?_
  refine lv_iconst (v := 2) hx hb dL_law_550 (by decide) ?_
  refine lv_iadd hx hb dL_law_551 ?_
  refine va_sld hx hb hX hbl hbA wd.2.2.2.1 (vpin (i := i + 2) (by rw [a2]; omega) (by rw [a2]; omega)) dL_law_552 ?_
  obtain ⟨n2, r2, σ2, run2, er2, L2⟩ := rs_lose (a := (xs (i + 1).toNatClampNeg)) (b := (xs (i + 2).toNatClampNeg)) L1
  subst er2
  have rm2 := L2.rm
  refine lwc (k := 190) (As := [.int (xs (i + 1).toNatClampNeg), .int (xs (i + 2).toNatClampNeg)]) (rest := []) C0 hK hA (by decide) gw1561 gw1562 gw1563 dL_law_553 ⟨by decide +kernel, by decide +kernel⟩ run2 L1.ct.1 L1.ct.2 rfl (Nat.le_of_ble_eq_true rfl) (Nat.le_of_ble_eq_true rfl) (by omega) (by omega) wd (fun H locs cells slots wd => ?_)
  show W p l e room_1 s m #[Value.ref b] below meth c H locs cells slots (lw_Z below #[Value.ref b] s) (F0 m 556 ls [.int w1])
  refine lv_pop hx hb dL_law_556 rfl ?_
  refine lv_goto (tgt := 884) hx hb dL_law_557 (by decide) ?_
  exact kk _ _ _ _ _ _ L2 (wd.up (by omega))
set_option maxHeartbeats 2000000 in
theorem lo_give {p : Program} {l : Launch} {e : Env} {s : State} {m : MethodId} {below : List Frame} {meth : Method} {c : Code} {b L : Nat} {xs : Nat → Int32} {D : va_G} {cy : Nat → ClassId} {A : Nat → Prop} (C0 : lw_At p s m meth c b L xs) (hK : xK D cy s) (hAe : A = fun q : Nat => s.heap.size ≤ q) {j x t qo qa bA : Nat} {B : Nat → Nat} {i : Int32} {σ : ps} {ls : Array Slot} {H : Heap} {locs : List Loc} {cells slots : Nat} (hi : i.toInt = 6 * (j : Int)) (hL : 6 * j + 6 ≤ L) (hL2 : L ≤ 3072) (LI0 : LI s.heap.size j x t qo qa bA B σ) (wd : WdL D cy A s j [(4, .int i), (3, .ref qo), (2, .ref t), (1, .ref x), (0, .ref b)] σ ls H locs cells slots) (kk : ∀ (σ' : ps) (ls : Array Slot) (H : Heap) (locs : List Loc) (cells slots : Nat), LI s.heap.size (j + 1) x t qo qa bA B σ' → WdL D cy A s (j + 1) [(4, .int i), (3, .ref qo), (2, .ref t), (1, .ref x), (0, .ref b)] σ' ls H locs cells slots → W p l e room_1 s m #[Value.ref b] below meth c H locs cells slots (lw_Z below #[Value.ref b] s) (F0 m 884 ls [])) : W p l e room_1 s m #[Value.ref b] below meth c H locs cells slots (lw_Z below #[Value.ref b] s) (F0 m 560 ls []) := by
  obtain ⟨hx, hb, hr, hml, hown, hts9, hX, hbl, hlocks, hgv⟩ := id C0
  have hA : ∀ q : Nat, s.heap.size ≤ q → A q := fun q h => by rw [hAe]; exact h
  have hbA : ¬ A b := by rw [hAe]; exact Nat.not_le.mpr hbl
  have a1 : (i + 1).toInt = 6 * (j : Int) + 1 := by rw [n_add (by rw [hi]; show _ ≤ _ + (1 : Int); omega) (by rw [hi]; show _ + (1 : Int) ≤ _; omega), hi]; rfl
  have a2 : (i + 2).toInt = 6 * (j : Int) + 2 := by rw [n_add (by rw [hi]; show _ ≤ _ + (2 : Int); omega) (by rw [hi]; show _ + (2 : Int) ≤ _; omega), hi]; rfl
  have a3 : (i + 3).toInt = 6 * (j : Int) + 3 := by rw [n_add (by rw [hi]; show _ ≤ _ + (3 : Int); omega) (by rw [hi]; show _ + (3 : Int) ≤ _; omega), hi]; rfl
  have a4 : (i + 4).toInt = 6 * (j : Int) + 4 := by rw [n_add (by rw [hi]; show _ ≤ _ + (4 : Int); omega) (by rw [hi]; show _ + (4 : Int) ≤ _; omega), hi]; rfl
  have a5 : (i + 5).toInt = 6 * (j : Int) + 5 := by rw [n_add (by rw [hi]; show _ ≤ _ + (5 : Int); omega) (by rw [hi]; show _ + (5 : Int) ≤ _; omega), hi]; rfl
  have hj : j ≤ 600 := by omega
  refine lv_aload_n hx hb dL_law_560 rfl (lv_at wd.1 3 rfl) ?_
  refine lv_aload_n hx hb dL_law_561 rfl (lv_at wd.1 4 rfl) ?_
  refine lv_iload hx hb dL_law_562 (lv_at wd.1 0 rfl) ?_
  refine lv_iconst (v := 1) hx hb dL_law_564 (by decide) ?_
  refine lv_iadd hx hb dL_law_565 ?_
  refine va_sld hx hb hX hbl hbA wd.2.2.2.1 (vpin (i := i + 1) (by rw [a1]; omega) (by rw [a1]; omega)) dL_law_566 ?_
  obtain ⟨n1, r1, σ1, run1, ⟨w1, er1⟩, L1⟩ := cs_give (a := (xs (i + 1).toNatClampNeg)) LI0
  subst er1
  have rm1 := L1.rm
  refine lwc (k := 98) (As := [.int (xs (i + 1).toNatClampNeg)]) (rest := []) C0 hK hA (by decide) gw641 gw642 gw643 dL_law_567 ⟨by decide +kernel, by decide +kernel⟩ run1 LI0.cx.1 LI0.cx.2 rfl (Nat.le_of_ble_eq_true rfl) (Nat.le_of_ble_eq_true rfl) (by omega) (by omega) wd (fun H locs cells slots wd => ?_)
  show W p l e room_1 s m #[Value.ref b] below meth c H locs cells slots (lw_Z below #[Value.ref b] s) (F0 m 570 ls [.int w1])
  refine lv_pop hx hb dL_law_570 rfl ?_
  refine lv_aload_n hx hb dL_law_571 rfl (lv_at wd.1 2 rfl) ?_
  refine lv_aload_n hx hb dL_law_572 rfl (lv_at wd.1 4 rfl) ?_
  refine lv_iload hx hb dL_law_573 (lv_at wd.1 0 rfl) ?_
  refine lv_iconst (v := 1) hx hb dL_law_575 (by decide) ?_
  refine lv_iadd hx hb dL_law_576 ?_
  refine va_sld hx hb hX hbl hbA wd.2.2.2.1 (vpin (i := i + 1) (by rw [a1]; omega) (by rw [a1]; omega)) dL_law_577 ?_
  obtain ⟨n2, r2, σ2, run2, ⟨w2, er2⟩, L2⟩ := rs_give (a := (xs (i + 1).toNatClampNeg)) hj L1
  subst er2
  have rm2 := L2.rm
  refine lwc (k := 191) (As := [.int (xs (i + 1).toNatClampNeg)]) (rest := []) C0 hK hA (by decide) gw1565 gw1566 gw1567 dL_law_578 ⟨by decide +kernel, by decide +kernel⟩ run2 L1.ct.1 L1.ct.2 rfl (Nat.le_of_ble_eq_true rfl) (Nat.le_of_ble_eq_true rfl) (by omega) (by omega) wd (fun H locs cells slots wd => ?_)
  show W p l e room_1 s m #[Value.ref b] below meth c H locs cells slots (lw_Z below #[Value.ref b] s) (F0 m 581 ls [.int w2])
  refine lv_pop hx hb dL_law_581 rfl ?_
  refine lv_goto (tgt := 884) hx hb dL_law_582 (by decide) ?_
  exact kk _ _ _ _ _ _ L2 (wd.up (by omega))
set_option maxHeartbeats 2000000 in
theorem lo_sign {p : Program} {l : Launch} {e : Env} {s : State} {m : MethodId} {below : List Frame} {meth : Method} {c : Code} {b L : Nat} {xs : Nat → Int32} {D : va_G} {cy : Nat → ClassId} {A : Nat → Prop} (C0 : lw_At p s m meth c b L xs) (hK : xK D cy s) (hAe : A = fun q : Nat => s.heap.size ≤ q) {j x t qo qa bA : Nat} {B : Nat → Nat} {i : Int32} {σ : ps} {ls : Array Slot} {H : Heap} {locs : List Loc} {cells slots : Nat} (hi : i.toInt = 6 * (j : Int)) (hL : 6 * j + 6 ≤ L) (hL2 : L ≤ 3072) (LI0 : LI s.heap.size j x t qo qa bA B σ) (wd : WdL D cy A s j [(4, .int i), (3, .ref qo), (2, .ref t), (1, .ref x), (0, .ref b)] σ ls H locs cells slots) (kk : ∀ (σ' : ps) (ls : Array Slot) (H : Heap) (locs : List Loc) (cells slots : Nat), LI s.heap.size (j + 1) x t qo qa bA B σ' → WdL D cy A s (j + 1) [(4, .int i), (3, .ref qo), (2, .ref t), (1, .ref x), (0, .ref b)] σ' ls H locs cells slots → W p l e room_1 s m #[Value.ref b] below meth c H locs cells slots (lw_Z below #[Value.ref b] s) (F0 m 884 ls [])) : W p l e room_1 s m #[Value.ref b] below meth c H locs cells slots (lw_Z below #[Value.ref b] s) (F0 m 625 ls []) := by
  obtain ⟨hx, hb, hr, hml, hown, hts9, hX, hbl, hlocks, hgv⟩ := id C0
  have hA : ∀ q : Nat, s.heap.size ≤ q → A q := fun q h => by rw [hAe]; exact h
  have hbA : ¬ A b := by rw [hAe]; exact Nat.not_le.mpr hbl
  have a1 : (i + 1).toInt = 6 * (j : Int) + 1 := by rw [n_add (by rw [hi]; show _ ≤ _ + (1 : Int); omega) (by rw [hi]; show _ + (1 : Int) ≤ _; omega), hi]; rfl
  have a2 : (i + 2).toInt = 6 * (j : Int) + 2 := by rw [n_add (by rw [hi]; show _ ≤ _ + (2 : Int); omega) (by rw [hi]; show _ + (2 : Int) ≤ _; omega), hi]; rfl
  have a3 : (i + 3).toInt = 6 * (j : Int) + 3 := by rw [n_add (by rw [hi]; show _ ≤ _ + (3 : Int); omega) (by rw [hi]; show _ + (3 : Int) ≤ _; omega), hi]; rfl
  have a4 : (i + 4).toInt = 6 * (j : Int) + 4 := by rw [n_add (by rw [hi]; show _ ≤ _ + (4 : Int); omega) (by rw [hi]; show _ + (4 : Int) ≤ _; omega), hi]; rfl
  have a5 : (i + 5).toInt = 6 * (j : Int) + 5 := by rw [n_add (by rw [hi]; show _ ≤ _ + (5 : Int); omega) (by rw [hi]; show _ + (5 : Int) ≤ _; omega), hi]; rfl
  have hj : j ≤ 600 := by omega
  refine lv_aload_n hx hb dL_law_625 rfl (lv_at wd.1 3 rfl) ?_
  refine lv_aload_n hx hb dL_law_626 rfl (lv_at wd.1 4 rfl) ?_
  refine lv_iload hx hb dL_law_627 (lv_at wd.1 0 rfl) ?_
  refine lv_iconst (v := 1) hx hb dL_law_629 (by decide) ?_
  refine lv_iadd hx hb dL_law_630 ?_
  refine va_sld hx hb hX hbl hbA wd.2.2.2.1 (vpin (i := i + 1) (by rw [a1]; omega) (by rw [a1]; omega)) dL_law_631 ?_
  refine lv_aload_n hx hb dL_law_632 rfl (lv_at wd.1 4 rfl) ?_
  refine lv_iload hx hb dL_law_633 (lv_at wd.1 0 rfl) ?_
  refine lv_iconst (v := 2) hx hb dL_law_635 (by decide) ?_
  refine lv_iadd hx hb dL_law_636 ?_
  refine va_sld hx hb hX hbl hbA wd.2.2.2.1 (vpin (i := i + 2) (by rw [a2]; omega) (by rw [a2]; omega)) dL_law_637 ?_
  obtain ⟨n1, r1, σ1, run1, ⟨w1, er1⟩, L1⟩ := cs_sign (a := (xs (i + 1).toNatClampNeg)) (b := (xs (i + 2).toNatClampNeg)) LI0
  subst er1
  have rm1 := L1.rm
  refine lwc (k := 128) (As := [.int (xs (i + 1).toNatClampNeg), .int (xs (i + 2).toNatClampNeg)]) (rest := []) C0 hK hA (by decide) gw971 gw972 gw973 dL_law_638 ⟨by decide +kernel, by decide +kernel⟩ run1 LI0.cx.1 LI0.cx.2 rfl (Nat.le_of_ble_eq_true rfl) (Nat.le_of_ble_eq_true rfl) (by omega) (by omega) wd (fun H locs cells slots wd => ?_)
  show W p l e room_1 s m #[Value.ref b] below meth c H locs cells slots (lw_Z below #[Value.ref b] s) (F0 m 641 ls [.int w1])
  refine lv_pop hx hb dL_law_641 rfl ?_
  refine lv_aload_n hx hb dL_law_642 rfl (lv_at wd.1 2 rfl) ?_
  refine lv_aload_n hx hb dL_law_643 rfl (lv_at wd.1 4 rfl) ?_
  refine lv_iload hx hb dL_law_644 (lv_at wd.1 0 rfl) ?_
  refine lv_iconst (v := 1) hx hb dL_law_646 (by decide) ?_
  refine lv_iadd hx hb dL_law_647 ?_
  refine va_sld hx hb hX hbl hbA wd.2.2.2.1 (vpin (i := i + 1) (by rw [a1]; omega) (by rw [a1]; omega)) dL_law_648 ?_
  refine lv_aload_n hx hb dL_law_649 rfl (lv_at wd.1 4 rfl) ?_
  refine lv_iload hx hb dL_law_650 (lv_at wd.1 0 rfl) ?_
  refine lv_iconst (v := 2) hx hb dL_law_652 (by decide) ?_
  refine lv_iadd hx hb dL_law_653 ?_
  refine va_sld hx hb hX hbl hbA wd.2.2.2.1 (vpin (i := i + 2) (by rw [a2]; omega) (by rw [a2]; omega)) dL_law_654 ?_
  obtain ⟨n2, r2, σ2, run2, ⟨w2, er2⟩, L2⟩ := rs_sign (a := (xs (i + 1).toNatClampNeg)) (b := (xs (i + 2).toNatClampNeg)) L1
  subst er2
  have rm2 := L2.rm
  refine lwc (k := 194) (As := [.int (xs (i + 1).toNatClampNeg), .int (xs (i + 2).toNatClampNeg)]) (rest := []) C0 hK hA (by decide) gw1577 gw1578 gw1579 dL_law_655 ⟨by decide +kernel, by decide +kernel⟩ run2 L1.ct.1 L1.ct.2 rfl (Nat.le_of_ble_eq_true rfl) (Nat.le_of_ble_eq_true rfl) (by omega) (by omega) wd (fun H locs cells slots wd => ?_)
  show W p l e room_1 s m #[Value.ref b] below meth c H locs cells slots (lw_Z below #[Value.ref b] s) (F0 m 658 ls [.int w2])
  refine lv_pop hx hb dL_law_658 rfl ?_
  refine lv_goto (tgt := 884) hx hb dL_law_659 (by decide) ?_
  exact kk _ _ _ _ _ _ L2 (wd.up (by omega))
set_option maxHeartbeats 2000000 in
theorem lo_answers {p : Program} {l : Launch} {e : Env} {s : State} {m : MethodId} {below : List Frame} {meth : Method} {c : Code} {b L : Nat} {xs : Nat → Int32} {D : va_G} {cy : Nat → ClassId} {A : Nat → Prop} (C0 : lw_At p s m meth c b L xs) (hK : xK D cy s) (hAe : A = fun q : Nat => s.heap.size ≤ q) {j x t qo qa bA : Nat} {B : Nat → Nat} {i : Int32} {σ : ps} {ls : Array Slot} {H : Heap} {locs : List Loc} {cells slots : Nat} (hi : i.toInt = 6 * (j : Int)) (hL : 6 * j + 6 ≤ L) (hL2 : L ≤ 3072) (LI0 : LI s.heap.size j x t qo qa bA B σ) (wd : WdL D cy A s j [(4, .int i), (3, .ref qo), (2, .ref t), (1, .ref x), (0, .ref b)] σ ls H locs cells slots) (kk : ∀ (σ' : ps) (ls : Array Slot) (H : Heap) (locs : List Loc) (cells slots : Nat), LI s.heap.size (j + 1) x t qo qa bA B σ' → WdL D cy A s (j + 1) [(4, .int i), (3, .ref qo), (2, .ref t), (1, .ref x), (0, .ref b)] σ' ls H locs cells slots → W p l e room_1 s m #[Value.ref b] below meth c H locs cells slots (lw_Z below #[Value.ref b] s) (F0 m 884 ls [])) : W p l e room_1 s m #[Value.ref b] below meth c H locs cells slots (lw_Z below #[Value.ref b] s) (F0 m 662 ls []) := by
  obtain ⟨hx, hb, hr, hml, hown, hts9, hX, hbl, hlocks, hgv⟩ := id C0
  have hA : ∀ q : Nat, s.heap.size ≤ q → A q := fun q h => by rw [hAe]; exact h
  have hbA : ¬ A b := by rw [hAe]; exact Nat.not_le.mpr hbl
  have a1 : (i + 1).toInt = 6 * (j : Int) + 1 := by rw [n_add (by rw [hi]; show _ ≤ _ + (1 : Int); omega) (by rw [hi]; show _ + (1 : Int) ≤ _; omega), hi]; rfl
  have a2 : (i + 2).toInt = 6 * (j : Int) + 2 := by rw [n_add (by rw [hi]; show _ ≤ _ + (2 : Int); omega) (by rw [hi]; show _ + (2 : Int) ≤ _; omega), hi]; rfl
  have a3 : (i + 3).toInt = 6 * (j : Int) + 3 := by rw [n_add (by rw [hi]; show _ ≤ _ + (3 : Int); omega) (by rw [hi]; show _ + (3 : Int) ≤ _; omega), hi]; rfl
  have a4 : (i + 4).toInt = 6 * (j : Int) + 4 := by rw [n_add (by rw [hi]; show _ ≤ _ + (4 : Int); omega) (by rw [hi]; show _ + (4 : Int) ≤ _; omega), hi]; rfl
  have a5 : (i + 5).toInt = 6 * (j : Int) + 5 := by rw [n_add (by rw [hi]; show _ ≤ _ + (5 : Int); omega) (by rw [hi]; show _ + (5 : Int) ≤ _; omega), hi]; rfl
  have hj : j ≤ 600 := by omega
  refine lv_aload_n hx hb dL_law_662 rfl (lv_at wd.1 3 rfl) ?_
  refine lv_aload_n hx hb dL_law_663 rfl (lv_at wd.1 4 rfl) ?_
  refine lv_iload hx hb dL_law_664 (lv_at wd.1 0 rfl) ?_
  refine lv_iconst (v := 1) hx hb dL_law_666 (by decide) ?_
  refine lv_iadd hx hb dL_law_667 ?_
  refine va_sld hx hb hX hbl hbA wd.2.2.2.1 (vpin (i := i + 1) (by rw [a1]; omega) (by rw [a1]; omega)) dL_law_668 ?_
  refine lv_aload_n hx hb dL_law_669 rfl (lv_at wd.1 4 rfl) ?_
  refine lv_iload hx hb dL_law_670 (lv_at wd.1 0 rfl) ?_
  refine lv_iconst (v := 2) hx hb dL_law_672 (by decide) ?_
  refine lv_iadd hx hb dL_law_673 ?_
  refine va_sld hx hb hX hbl hbA wd.2.2.2.1 (vpin (i := i + 2) (by rw [a2]; omega) (by rw [a2]; omega)) dL_law_674 ?_
  obtain ⟨n1, r1, σ1, run1, ⟨w1, er1⟩, L1⟩ := cs_answers (a := (xs (i + 1).toNatClampNeg)) (b := (xs (i + 2).toNatClampNeg)) LI0
  subst er1
  have rm1 := L1.rm
  refine lwc (k := 129) (As := [.int (xs (i + 1).toNatClampNeg), .int (xs (i + 2).toNatClampNeg)]) (rest := []) C0 hK hA (by decide) gw979 gw980 gw981 dL_law_675 ⟨by decide +kernel, by decide +kernel⟩ run1 LI0.cx.1 LI0.cx.2 rfl (Nat.le_of_ble_eq_true rfl) (Nat.le_of_ble_eq_true rfl) (by omega) (by omega) wd (fun H locs cells slots wd => ?_)
  show W p l e room_1 s m #[Value.ref b] below meth c H locs cells slots (lw_Z below #[Value.ref b] s) (F0 m 678 ls [.int w1])
  refine lv_pop hx hb dL_law_678 rfl ?_
  refine lv_aload_n hx hb dL_law_679 rfl (lv_at wd.1 2 rfl) ?_
  refine lv_aload_n hx hb dL_law_680 rfl (lv_at wd.1 4 rfl) ?_
  refine lv_iload hx hb dL_law_681 (lv_at wd.1 0 rfl) ?_
  refine lv_iconst (v := 1) hx hb dL_law_683 (by decide) ?_
  refine lv_iadd hx hb dL_law_684 ?_
  refine va_sld hx hb hX hbl hbA wd.2.2.2.1 (vpin (i := i + 1) (by rw [a1]; omega) (by rw [a1]; omega)) dL_law_685 ?_
  refine lv_aload_n hx hb dL_law_686 rfl (lv_at wd.1 4 rfl) ?_
  refine lv_iload hx hb dL_law_687 (lv_at wd.1 0 rfl) ?_
  refine lv_iconst (v := 2) hx hb dL_law_689 (by decide) ?_
  refine lv_iadd hx hb dL_law_690 ?_
  refine va_sld hx hb hX hbl hbA wd.2.2.2.1 (vpin (i := i + 2) (by rw [a2]; omega) (by rw [a2]; omega)) dL_law_691 ?_
  obtain ⟨n2, r2, σ2, run2, ⟨w2, er2⟩, L2⟩ := rs_answers (a := (xs (i + 1).toNatClampNeg)) (b := (xs (i + 2).toNatClampNeg)) L1
  subst er2
  have rm2 := L2.rm
  refine lwc (k := 196) (As := [.int (xs (i + 1).toNatClampNeg), .int (xs (i + 2).toNatClampNeg)]) (rest := []) C0 hK hA (by decide) gw1581 gw1582 gw1583 dL_law_692 ⟨by decide +kernel, by decide +kernel⟩ run2 L1.ct.1 L1.ct.2 rfl (Nat.le_of_ble_eq_true rfl) (Nat.le_of_ble_eq_true rfl) (by omega) (by omega) wd (fun H locs cells slots wd => ?_)
  show W p l e room_1 s m #[Value.ref b] below meth c H locs cells slots (lw_Z below #[Value.ref b] s) (F0 m 695 ls [.int w2])
  refine lv_pop hx hb dL_law_695 rfl ?_
  refine lv_goto (tgt := 884) hx hb dL_law_696 (by decide) ?_
  exact kk _ _ _ _ _ _ L2 (wd.up (by omega))
set_option maxHeartbeats 2000000 in
theorem lo_found {p : Program} {l : Launch} {e : Env} {s : State} {m : MethodId} {below : List Frame} {meth : Method} {c : Code} {b L : Nat} {xs : Nat → Int32} {D : va_G} {cy : Nat → ClassId} {A : Nat → Prop} (C0 : lw_At p s m meth c b L xs) (hK : xK D cy s) (hAe : A = fun q : Nat => s.heap.size ≤ q) {j x t qo qa bA : Nat} {B : Nat → Nat} {i : Int32} {σ : ps} {ls : Array Slot} {H : Heap} {locs : List Loc} {cells slots : Nat} (hi : i.toInt = 6 * (j : Int)) (hL : 6 * j + 6 ≤ L) (hL2 : L ≤ 3072) (LI0 : LI s.heap.size j x t qo qa bA B σ) (wd : WdL D cy A s j [(4, .int i), (3, .ref qo), (2, .ref t), (1, .ref x), (0, .ref b)] σ ls H locs cells slots) (kk : ∀ (σ' : ps) (ls : Array Slot) (H : Heap) (locs : List Loc) (cells slots : Nat), LI s.heap.size (j + 1) x t qo qa bA B σ' → WdL D cy A s (j + 1) [(4, .int i), (3, .ref qo), (2, .ref t), (1, .ref x), (0, .ref b)] σ' ls H locs cells slots → W p l e room_1 s m #[Value.ref b] below meth c H locs cells slots (lw_Z below #[Value.ref b] s) (F0 m 884 ls [])) : W p l e room_1 s m #[Value.ref b] below meth c H locs cells slots (lw_Z below #[Value.ref b] s) (F0 m 699 ls []) := by
  obtain ⟨hx, hb, hr, hml, hown, hts9, hX, hbl, hlocks, hgv⟩ := id C0
  have hA : ∀ q : Nat, s.heap.size ≤ q → A q := fun q h => by rw [hAe]; exact h
  have hbA : ¬ A b := by rw [hAe]; exact Nat.not_le.mpr hbl
  have a1 : (i + 1).toInt = 6 * (j : Int) + 1 := by rw [n_add (by rw [hi]; show _ ≤ _ + (1 : Int); omega) (by rw [hi]; show _ + (1 : Int) ≤ _; omega), hi]; rfl
  have a2 : (i + 2).toInt = 6 * (j : Int) + 2 := by rw [n_add (by rw [hi]; show _ ≤ _ + (2 : Int); omega) (by rw [hi]; show _ + (2 : Int) ≤ _; omega), hi]; rfl
  have a3 : (i + 3).toInt = 6 * (j : Int) + 3 := by rw [n_add (by rw [hi]; show _ ≤ _ + (3 : Int); omega) (by rw [hi]; show _ + (3 : Int) ≤ _; omega), hi]; rfl
  have a4 : (i + 4).toInt = 6 * (j : Int) + 4 := by rw [n_add (by rw [hi]; show _ ≤ _ + (4 : Int); omega) (by rw [hi]; show _ + (4 : Int) ≤ _; omega), hi]; rfl
  have a5 : (i + 5).toInt = 6 * (j : Int) + 5 := by rw [n_add (by rw [hi]; show _ ≤ _ + (5 : Int); omega) (by rw [hi]; show _ + (5 : Int) ≤ _; omega), hi]; rfl
  have hj : j ≤ 600 := by omega
  refine lv_aload_n hx hb dL_law_699 rfl (lv_at wd.1 3 rfl) ?_
  refine lv_aload_n hx hb dL_law_700 rfl (lv_at wd.1 4 rfl) ?_
  refine lv_iload hx hb dL_law_701 (lv_at wd.1 0 rfl) ?_
  refine lv_iconst (v := 1) hx hb dL_law_703 (by decide) ?_
  refine lv_iadd hx hb dL_law_704 ?_
  refine va_sld hx hb hX hbl hbA wd.2.2.2.1 (vpin (i := i + 1) (by rw [a1]; omega) (by rw [a1]; omega)) dL_law_705 ?_
  refine lv_aload_n hx hb dL_law_706 rfl (lv_at wd.1 4 rfl) ?_
  refine lv_iload hx hb dL_law_707 (lv_at wd.1 0 rfl) ?_
  refine lv_iconst (v := 2) hx hb dL_law_709 (by decide) ?_
  refine lv_iadd hx hb dL_law_710 ?_
  refine va_sld hx hb hX hbl hbA wd.2.2.2.1 (vpin (i := i + 2) (by rw [a2]; omega) (by rw [a2]; omega)) dL_law_711 ?_
  refine lv_aload_n hx hb dL_law_712 rfl (lv_at wd.1 4 rfl) ?_
  refine lv_iload hx hb dL_law_713 (lv_at wd.1 0 rfl) ?_
  refine lv_iconst (v := 3) hx hb dL_law_715 (by decide) ?_
  refine lv_iadd hx hb dL_law_716 ?_
  refine va_sld hx hb hX hbl hbA wd.2.2.2.1 (vpin (i := i + 3) (by rw [a3]; omega) (by rw [a3]; omega)) dL_law_717 ?_
  refine lv_aload_n hx hb dL_law_718 rfl (lv_at wd.1 4 rfl) ?_
  refine lv_iload hx hb dL_law_719 (lv_at wd.1 0 rfl) ?_
  refine lv_iconst (v := 4) hx hb dL_law_721 (by decide) ?_
  refine lv_iadd hx hb dL_law_722 ?_
  refine va_sld hx hb hX hbl hbA wd.2.2.2.1 (vpin (i := i + 4) (by rw [a4]; omega) (by rw [a4]; omega)) dL_law_723 ?_
  obtain ⟨n1, r1, σ1, run1, ⟨w1, er1⟩, L1⟩ := cs_found (a := (xs (i + 1).toNatClampNeg)) (b := (xs (i + 2).toNatClampNeg)) (c := (xs (i + 3).toNatClampNeg)) (d := (xs (i + 4).toNatClampNeg)) LI0
  subst er1
  have rm1 := L1.rm
  refine lwc (k := 130) (As := [.int (xs (i + 1).toNatClampNeg), .int (xs (i + 2).toNatClampNeg), .int (xs (i + 3).toNatClampNeg), .int (xs (i + 4).toNatClampNeg)]) (rest := []) C0 hK hA (by decide) gw987 gw988 gw989 dL_law_724 ⟨by decide +kernel, by decide +kernel⟩ run1 LI0.cx.1 LI0.cx.2 rfl (Nat.le_of_ble_eq_true rfl) (Nat.le_of_ble_eq_true rfl) (by omega) (by omega) wd (fun H locs cells slots wd => ?_)
  show W p l e room_1 s m #[Value.ref b] below meth c H locs cells slots (lw_Z below #[Value.ref b] s) (F0 m 727 ls [.int w1])
  refine lv_pop hx hb dL_law_727 rfl ?_
  refine lv_aload_n hx hb dL_law_728 rfl (lv_at wd.1 2 rfl) ?_
  refine lv_aload_n hx hb dL_law_729 rfl (lv_at wd.1 4 rfl) ?_
  refine lv_iload hx hb dL_law_730 (lv_at wd.1 0 rfl) ?_
  refine lv_iconst (v := 1) hx hb dL_law_732 (by decide) ?_
  refine lv_iadd hx hb dL_law_733 ?_
  refine va_sld hx hb hX hbl hbA wd.2.2.2.1 (vpin (i := i + 1) (by rw [a1]; omega) (by rw [a1]; omega)) dL_law_734 ?_
  refine lv_aload_n hx hb dL_law_735 rfl (lv_at wd.1 4 rfl) ?_
  refine lv_iload hx hb dL_law_736 (lv_at wd.1 0 rfl) ?_
  refine lv_iconst (v := 2) hx hb dL_law_738 (by decide) ?_
  refine lv_iadd hx hb dL_law_739 ?_
  refine va_sld hx hb hX hbl hbA wd.2.2.2.1 (vpin (i := i + 2) (by rw [a2]; omega) (by rw [a2]; omega)) dL_law_740 ?_
  refine lv_aload_n hx hb dL_law_741 rfl (lv_at wd.1 4 rfl) ?_
  refine lv_iload hx hb dL_law_742 (lv_at wd.1 0 rfl) ?_
  refine lv_iconst (v := 3) hx hb dL_law_744 (by decide) ?_
  refine lv_iadd hx hb dL_law_745 ?_
  refine va_sld hx hb hX hbl hbA wd.2.2.2.1 (vpin (i := i + 3) (by rw [a3]; omega) (by rw [a3]; omega)) dL_law_746 ?_
  refine lv_aload_n hx hb dL_law_747 rfl (lv_at wd.1 4 rfl) ?_
  refine lv_iload hx hb dL_law_748 (lv_at wd.1 0 rfl) ?_
  refine lv_iconst (v := 4) hx hb dL_law_750 (by decide) ?_
  refine lv_iadd hx hb dL_law_751 ?_
  refine va_sld hx hb hX hbl hbA wd.2.2.2.1 (vpin (i := i + 4) (by rw [a4]; omega) (by rw [a4]; omega)) dL_law_752 ?_
  obtain ⟨n2, r2, σ2, run2, ⟨w2, er2⟩, L2⟩ := rs_found (a := (xs (i + 1).toNatClampNeg)) (b := (xs (i + 2).toNatClampNeg)) (c := (xs (i + 3).toNatClampNeg)) (d := (xs (i + 4).toNatClampNeg)) L1
  subst er2
  have rm2 := L2.rm
  refine lwc (k := 197) (As := [.int (xs (i + 1).toNatClampNeg), .int (xs (i + 2).toNatClampNeg), .int (xs (i + 3).toNatClampNeg), .int (xs (i + 4).toNatClampNeg)]) (rest := []) C0 hK hA (by decide) gw1589 gw1590 gw1591 dL_law_753 ⟨by decide +kernel, by decide +kernel⟩ run2 L1.ct.1 L1.ct.2 rfl (Nat.le_of_ble_eq_true rfl) (Nat.le_of_ble_eq_true rfl) (by omega) (by omega) wd (fun H locs cells slots wd => ?_)
  show W p l e room_1 s m #[Value.ref b] below meth c H locs cells slots (lw_Z below #[Value.ref b] s) (F0 m 756 ls [.int w2])
  refine lv_pop hx hb dL_law_756 rfl ?_
  refine lv_goto (tgt := 884) hx hb dL_law_757 (by decide) ?_
  exact kk _ _ _ _ _ _ L2 (wd.up (by omega))
set_option maxHeartbeats 2000000 in
theorem lo_entry {p : Program} {l : Launch} {e : Env} {s : State} {m : MethodId} {below : List Frame} {meth : Method} {c : Code} {b L : Nat} {xs : Nat → Int32} {D : va_G} {cy : Nat → ClassId} {A : Nat → Prop} (C0 : lw_At p s m meth c b L xs) (hK : xK D cy s) (hAe : A = fun q : Nat => s.heap.size ≤ q) {j x t qo qa bA : Nat} {B : Nat → Nat} {i : Int32} {σ : ps} {ls : Array Slot} {H : Heap} {locs : List Loc} {cells slots : Nat} (hi : i.toInt = 6 * (j : Int)) (hL : 6 * j + 6 ≤ L) (hL2 : L ≤ 3072) (LI0 : LI s.heap.size j x t qo qa bA B σ) (wd : WdL D cy A s j [(4, .int i), (3, .ref qo), (2, .ref t), (1, .ref x), (0, .ref b)] σ ls H locs cells slots) (kk : ∀ (σ' : ps) (ls : Array Slot) (H : Heap) (locs : List Loc) (cells slots : Nat), LI s.heap.size (j + 1) x t qo qa bA B σ' → WdL D cy A s (j + 1) [(4, .int i), (3, .ref qo), (2, .ref t), (1, .ref x), (0, .ref b)] σ' ls H locs cells slots → W p l e room_1 s m #[Value.ref b] below meth c H locs cells slots (lw_Z below #[Value.ref b] s) (F0 m 884 ls [])) : W p l e room_1 s m #[Value.ref b] below meth c H locs cells slots (lw_Z below #[Value.ref b] s) (F0 m 760 ls []) := by
  obtain ⟨hx, hb, hr, hml, hown, hts9, hX, hbl, hlocks, hgv⟩ := id C0
  have hA : ∀ q : Nat, s.heap.size ≤ q → A q := fun q h => by rw [hAe]; exact h
  have hbA : ¬ A b := by rw [hAe]; exact Nat.not_le.mpr hbl
  have a1 : (i + 1).toInt = 6 * (j : Int) + 1 := by rw [n_add (by rw [hi]; show _ ≤ _ + (1 : Int); omega) (by rw [hi]; show _ + (1 : Int) ≤ _; omega), hi]; rfl
  have a2 : (i + 2).toInt = 6 * (j : Int) + 2 := by rw [n_add (by rw [hi]; show _ ≤ _ + (2 : Int); omega) (by rw [hi]; show _ + (2 : Int) ≤ _; omega), hi]; rfl
  have a3 : (i + 3).toInt = 6 * (j : Int) + 3 := by rw [n_add (by rw [hi]; show _ ≤ _ + (3 : Int); omega) (by rw [hi]; show _ + (3 : Int) ≤ _; omega), hi]; rfl
  have a4 : (i + 4).toInt = 6 * (j : Int) + 4 := by rw [n_add (by rw [hi]; show _ ≤ _ + (4 : Int); omega) (by rw [hi]; show _ + (4 : Int) ≤ _; omega), hi]; rfl
  have a5 : (i + 5).toInt = 6 * (j : Int) + 5 := by rw [n_add (by rw [hi]; show _ ≤ _ + (5 : Int); omega) (by rw [hi]; show _ + (5 : Int) ≤ _; omega), hi]; rfl
  have hj : j ≤ 600 := by omega
  refine lv_aload_n hx hb dL_law_760 rfl (lv_at wd.1 3 rfl) ?_
  refine lv_aload_n hx hb dL_law_761 rfl (lv_at wd.1 4 rfl) ?_
  refine lv_iload hx hb dL_law_762 (lv_at wd.1 0 rfl) ?_
  refine lv_iconst (v := 1) hx hb dL_law_764 (by decide) ?_
  refine lv_iadd hx hb dL_law_765 ?_
  refine va_sld hx hb hX hbl hbA wd.2.2.2.1 (vpin (i := i + 1) (by rw [a1]; omega) (by rw [a1]; omega)) dL_law_766 ?_
  refine lv_aload_n hx hb dL_law_767 rfl (lv_at wd.1 4 rfl) ?_
  refine lv_iload hx hb dL_law_768 (lv_at wd.1 0 rfl) ?_
  refine lv_iconst (v := 2) hx hb dL_law_770 (by decide) ?_
  refine lv_iadd hx hb dL_law_771 ?_
  refine va_sld hx hb hX hbl hbA wd.2.2.2.1 (vpin (i := i + 2) (by rw [a2]; omega) (by rw [a2]; omega)) dL_law_772 ?_
  refine lv_aload_n hx hb dL_law_773 rfl (lv_at wd.1 4 rfl) ?_
  refine lv_iload hx hb dL_law_774 (lv_at wd.1 0 rfl) ?_
  refine lv_iconst (v := 3) hx hb dL_law_776 (by decide) ?_
  refine lv_iadd hx hb dL_law_777 ?_
  refine va_sld hx hb hX hbl hbA wd.2.2.2.1 (vpin (i := i + 3) (by rw [a3]; omega) (by rw [a3]; omega)) dL_law_778 ?_
  obtain ⟨n1, r1, σ1, run1, ⟨w1, er1⟩, L1⟩ := cs_entry (a := (xs (i + 1).toNatClampNeg)) (b := (xs (i + 2).toNatClampNeg)) (c := (xs (i + 3).toNatClampNeg)) LI0
  subst er1
  have rm1 := L1.rm
  refine lwc (k := 131) (As := [.int (xs (i + 1).toNatClampNeg), .int (xs (i + 2).toNatClampNeg), .int (xs (i + 3).toNatClampNeg)]) (rest := []) C0 hK hA (by decide) gw995 gw996 gw997 dL_law_779 ⟨by decide +kernel, by decide +kernel⟩ run1 LI0.cx.1 LI0.cx.2 rfl (Nat.le_of_ble_eq_true rfl) (Nat.le_of_ble_eq_true rfl) (by omega) (by omega) wd (fun H locs cells slots wd => ?_)
  show W p l e room_1 s m #[Value.ref b] below meth c H locs cells slots (lw_Z below #[Value.ref b] s) (F0 m 782 ls [.int w1])
  refine lv_pop hx hb dL_law_782 rfl ?_
  refine lv_aload_n hx hb dL_law_783 rfl (lv_at wd.1 2 rfl) ?_
  refine lv_aload_n hx hb dL_law_784 rfl (lv_at wd.1 4 rfl) ?_
  refine lv_iload hx hb dL_law_785 (lv_at wd.1 0 rfl) ?_
  refine lv_iconst (v := 1) hx hb dL_law_787 (by decide) ?_
  refine lv_iadd hx hb dL_law_788 ?_
  refine va_sld hx hb hX hbl hbA wd.2.2.2.1 (vpin (i := i + 1) (by rw [a1]; omega) (by rw [a1]; omega)) dL_law_789 ?_
  refine lv_aload_n hx hb dL_law_790 rfl (lv_at wd.1 4 rfl) ?_
  refine lv_iload hx hb dL_law_791 (lv_at wd.1 0 rfl) ?_
  refine lv_iconst (v := 2) hx hb dL_law_793 (by decide) ?_
  refine lv_iadd hx hb dL_law_794 ?_
  refine va_sld hx hb hX hbl hbA wd.2.2.2.1 (vpin (i := i + 2) (by rw [a2]; omega) (by rw [a2]; omega)) dL_law_795 ?_
  refine lv_aload_n hx hb dL_law_796 rfl (lv_at wd.1 4 rfl) ?_
  refine lv_iload hx hb dL_law_797 (lv_at wd.1 0 rfl) ?_
  refine lv_iconst (v := 3) hx hb dL_law_799 (by decide) ?_
  refine lv_iadd hx hb dL_law_800 ?_
  refine va_sld hx hb hX hbl hbA wd.2.2.2.1 (vpin (i := i + 3) (by rw [a3]; omega) (by rw [a3]; omega)) dL_law_801 ?_
  obtain ⟨n2, r2, σ2, run2, ⟨w2, er2⟩, L2⟩ := rs_entry (a := (xs (i + 1).toNatClampNeg)) (b := (xs (i + 2).toNatClampNeg)) (c := (xs (i + 3).toNatClampNeg)) L1
  subst er2
  have rm2 := L2.rm
  refine lwc (k := 198) (As := [.int (xs (i + 1).toNatClampNeg), .int (xs (i + 2).toNatClampNeg), .int (xs (i + 3).toNatClampNeg)]) (rest := []) C0 hK hA (by decide) gw1593 gw1594 gw1595 dL_law_802 ⟨by decide +kernel, by decide +kernel⟩ run2 L1.ct.1 L1.ct.2 rfl (Nat.le_of_ble_eq_true rfl) (Nat.le_of_ble_eq_true rfl) (by omega) (by omega) wd (fun H locs cells slots wd => ?_)
  show W p l e room_1 s m #[Value.ref b] below meth c H locs cells slots (lw_Z below #[Value.ref b] s) (F0 m 805 ls [.int w2])
  refine lv_pop hx hb dL_law_805 rfl ?_
  refine lv_goto (tgt := 884) hx hb dL_law_806 (by decide) ?_
  exact kk _ _ _ _ _ _ L2 (wd.up (by omega))
set_option maxHeartbeats 2000000 in
theorem lo_count {p : Program} {l : Launch} {e : Env} {s : State} {m : MethodId} {below : List Frame} {meth : Method} {c : Code} {b L : Nat} {xs : Nat → Int32} {D : va_G} {cy : Nat → ClassId} {A : Nat → Prop} (C0 : lw_At p s m meth c b L xs) (hK : xK D cy s) (hAe : A = fun q : Nat => s.heap.size ≤ q) {j x t qo qa bA : Nat} {B : Nat → Nat} {i : Int32} {σ : ps} {ls : Array Slot} {H : Heap} {locs : List Loc} {cells slots : Nat} (hi : i.toInt = 6 * (j : Int)) (hL : 6 * j + 6 ≤ L) (hL2 : L ≤ 3072) (LI0 : LI s.heap.size j x t qo qa bA B σ) (wd : WdL D cy A s j [(4, .int i), (3, .ref qo), (2, .ref t), (1, .ref x), (0, .ref b)] σ ls H locs cells slots) (kk : ∀ (σ' : ps) (ls : Array Slot) (H : Heap) (locs : List Loc) (cells slots : Nat), LI s.heap.size (j + 1) x t qo qa bA B σ' → WdL D cy A s (j + 1) [(4, .int i), (3, .ref qo), (2, .ref t), (1, .ref x), (0, .ref b)] σ' ls H locs cells slots → W p l e room_1 s m #[Value.ref b] below meth c H locs cells slots (lw_Z below #[Value.ref b] s) (F0 m 884 ls [])) : W p l e room_1 s m #[Value.ref b] below meth c H locs cells slots (lw_Z below #[Value.ref b] s) (F0 m 809 ls []) := by
  obtain ⟨hx, hb, hr, hml, hown, hts9, hX, hbl, hlocks, hgv⟩ := id C0
  have hA : ∀ q : Nat, s.heap.size ≤ q → A q := fun q h => by rw [hAe]; exact h
  have hbA : ¬ A b := by rw [hAe]; exact Nat.not_le.mpr hbl
  have a1 : (i + 1).toInt = 6 * (j : Int) + 1 := by rw [n_add (by rw [hi]; show _ ≤ _ + (1 : Int); omega) (by rw [hi]; show _ + (1 : Int) ≤ _; omega), hi]; rfl
  have a2 : (i + 2).toInt = 6 * (j : Int) + 2 := by rw [n_add (by rw [hi]; show _ ≤ _ + (2 : Int); omega) (by rw [hi]; show _ + (2 : Int) ≤ _; omega), hi]; rfl
  have a3 : (i + 3).toInt = 6 * (j : Int) + 3 := by rw [n_add (by rw [hi]; show _ ≤ _ + (3 : Int); omega) (by rw [hi]; show _ + (3 : Int) ≤ _; omega), hi]; rfl
  have a4 : (i + 4).toInt = 6 * (j : Int) + 4 := by rw [n_add (by rw [hi]; show _ ≤ _ + (4 : Int); omega) (by rw [hi]; show _ + (4 : Int) ≤ _; omega), hi]; rfl
  have a5 : (i + 5).toInt = 6 * (j : Int) + 5 := by rw [n_add (by rw [hi]; show _ ≤ _ + (5 : Int); omega) (by rw [hi]; show _ + (5 : Int) ≤ _; omega), hi]; rfl
  have hj : j ≤ 600 := by omega
  refine lv_aload_n hx hb dL_law_809 rfl (lv_at wd.1 3 rfl) ?_
  refine lv_aload_n hx hb dL_law_810 rfl (lv_at wd.1 4 rfl) ?_
  refine lv_iload hx hb dL_law_811 (lv_at wd.1 0 rfl) ?_
  refine lv_iconst (v := 1) hx hb dL_law_813 (by decide) ?_
  refine lv_iadd hx hb dL_law_814 ?_
  refine va_sld hx hb hX hbl hbA wd.2.2.2.1 (vpin (i := i + 1) (by rw [a1]; omega) (by rw [a1]; omega)) dL_law_815 ?_
  obtain ⟨n1, r1, σ1, run1, ⟨w1, er1⟩, L1⟩ := cs_count (a := (xs (i + 1).toNatClampNeg)) LI0
  subst er1
  have rm1 := L1.rm
  refine lwc (k := 132) (As := [.int (xs (i + 1).toNatClampNeg)]) (rest := []) C0 hK hA (by decide) gw1003 gw1004 gw1005 dL_law_816 ⟨by decide +kernel, by decide +kernel⟩ run1 LI0.cx.1 LI0.cx.2 rfl (Nat.le_of_ble_eq_true rfl) (Nat.le_of_ble_eq_true rfl) (by omega) (by omega) wd (fun H locs cells slots wd => ?_)
  show W p l e room_1 s m #[Value.ref b] below meth c H locs cells slots (lw_Z below #[Value.ref b] s) (F0 m 819 ls [.int w1])
  refine lv_pop hx hb dL_law_819 rfl ?_
  refine lv_aload_n hx hb dL_law_820 rfl (lv_at wd.1 2 rfl) ?_
  refine lv_aload_n hx hb dL_law_821 rfl (lv_at wd.1 4 rfl) ?_
  refine lv_iload hx hb dL_law_822 (lv_at wd.1 0 rfl) ?_
  refine lv_iconst (v := 1) hx hb dL_law_824 (by decide) ?_
  refine lv_iadd hx hb dL_law_825 ?_
  refine va_sld hx hb hX hbl hbA wd.2.2.2.1 (vpin (i := i + 1) (by rw [a1]; omega) (by rw [a1]; omega)) dL_law_826 ?_
  obtain ⟨n2, r2, σ2, run2, ⟨w2, er2⟩, L2⟩ := rs_count (a := (xs (i + 1).toNatClampNeg)) L1
  subst er2
  have rm2 := L2.rm
  refine lwc (k := 199) (As := [.int (xs (i + 1).toNatClampNeg)]) (rest := []) C0 hK hA (by decide) gw1597 gw1598 gw1599 dL_law_827 ⟨by decide +kernel, by decide +kernel⟩ run2 L1.ct.1 L1.ct.2 rfl (Nat.le_of_ble_eq_true rfl) (Nat.le_of_ble_eq_true rfl) (by omega) (by omega) wd (fun H locs cells slots wd => ?_)
  show W p l e room_1 s m #[Value.ref b] below meth c H locs cells slots (lw_Z below #[Value.ref b] s) (F0 m 830 ls [.int w2])
  refine lv_pop hx hb dL_law_830 rfl ?_
  refine lv_goto (tgt := 884) hx hb dL_law_831 (by decide) ?_
  exact kk _ _ _ _ _ _ L2 (wd.up (by omega))
set_option maxHeartbeats 2000000 in
theorem lo_holders {p : Program} {l : Launch} {e : Env} {s : State} {m : MethodId} {below : List Frame} {meth : Method} {c : Code} {b L : Nat} {xs : Nat → Int32} {D : va_G} {cy : Nat → ClassId} {A : Nat → Prop} (C0 : lw_At p s m meth c b L xs) (hK : xK D cy s) (hAe : A = fun q : Nat => s.heap.size ≤ q) {j x t qo qa bA : Nat} {B : Nat → Nat} {i : Int32} {σ : ps} {ls : Array Slot} {H : Heap} {locs : List Loc} {cells slots : Nat} (hi : i.toInt = 6 * (j : Int)) (hL : 6 * j + 6 ≤ L) (hL2 : L ≤ 3072) (LI0 : LI s.heap.size j x t qo qa bA B σ) (wd : WdL D cy A s j [(4, .int i), (3, .ref qo), (2, .ref t), (1, .ref x), (0, .ref b)] σ ls H locs cells slots) (kk : ∀ (σ' : ps) (ls : Array Slot) (H : Heap) (locs : List Loc) (cells slots : Nat), LI s.heap.size (j + 1) x t qo qa bA B σ' → WdL D cy A s (j + 1) [(4, .int i), (3, .ref qo), (2, .ref t), (1, .ref x), (0, .ref b)] σ' ls H locs cells slots → W p l e room_1 s m #[Value.ref b] below meth c H locs cells slots (lw_Z below #[Value.ref b] s) (F0 m 884 ls [])) : W p l e room_1 s m #[Value.ref b] below meth c H locs cells slots (lw_Z below #[Value.ref b] s) (F0 m 834 ls []) := by
  obtain ⟨hx, hb, hr, hml, hown, hts9, hX, hbl, hlocks, hgv⟩ := id C0
  have hA : ∀ q : Nat, s.heap.size ≤ q → A q := fun q h => by rw [hAe]; exact h
  have hbA : ¬ A b := by rw [hAe]; exact Nat.not_le.mpr hbl
  have a1 : (i + 1).toInt = 6 * (j : Int) + 1 := by rw [n_add (by rw [hi]; show _ ≤ _ + (1 : Int); omega) (by rw [hi]; show _ + (1 : Int) ≤ _; omega), hi]; rfl
  have a2 : (i + 2).toInt = 6 * (j : Int) + 2 := by rw [n_add (by rw [hi]; show _ ≤ _ + (2 : Int); omega) (by rw [hi]; show _ + (2 : Int) ≤ _; omega), hi]; rfl
  have a3 : (i + 3).toInt = 6 * (j : Int) + 3 := by rw [n_add (by rw [hi]; show _ ≤ _ + (3 : Int); omega) (by rw [hi]; show _ + (3 : Int) ≤ _; omega), hi]; rfl
  have a4 : (i + 4).toInt = 6 * (j : Int) + 4 := by rw [n_add (by rw [hi]; show _ ≤ _ + (4 : Int); omega) (by rw [hi]; show _ + (4 : Int) ≤ _; omega), hi]; rfl
  have a5 : (i + 5).toInt = 6 * (j : Int) + 5 := by rw [n_add (by rw [hi]; show _ ≤ _ + (5 : Int); omega) (by rw [hi]; show _ + (5 : Int) ≤ _; omega), hi]; rfl
  have hj : j ≤ 600 := by omega
  refine lv_aload_n hx hb dL_law_834 rfl (lv_at wd.1 3 rfl) ?_
  refine lv_aload_n hx hb dL_law_835 rfl (lv_at wd.1 4 rfl) ?_
  refine lv_iload hx hb dL_law_836 (lv_at wd.1 0 rfl) ?_
  refine lv_iconst (v := 1) hx hb dL_law_838 (by decide) ?_
  refine lv_iadd hx hb dL_law_839 ?_
  refine va_sld hx hb hX hbl hbA wd.2.2.2.1 (vpin (i := i + 1) (by rw [a1]; omega) (by rw [a1]; omega)) dL_law_840 ?_
  obtain ⟨n1, r1, σ1, run1, ⟨w1, er1⟩, L1⟩ := cs_holders (a := (xs (i + 1).toNatClampNeg)) LI0
  subst er1
  have rm1 := L1.rm
  refine lwc (k := 133) (As := [.int (xs (i + 1).toNatClampNeg)]) (rest := []) C0 hK hA (by decide) gw1007 gw1008 gw1009 dL_law_841 ⟨by decide +kernel, by decide +kernel⟩ run1 LI0.cx.1 LI0.cx.2 rfl (Nat.le_of_ble_eq_true rfl) (Nat.le_of_ble_eq_true rfl) (by omega) (by omega) wd (fun H locs cells slots wd => ?_)
  show W p l e room_1 s m #[Value.ref b] below meth c H locs cells slots (lw_Z below #[Value.ref b] s) (F0 m 844 ls [.int w1])
  refine lv_pop hx hb dL_law_844 rfl ?_
  refine lv_aload_n hx hb dL_law_845 rfl (lv_at wd.1 2 rfl) ?_
  refine lv_aload_n hx hb dL_law_846 rfl (lv_at wd.1 4 rfl) ?_
  refine lv_iload hx hb dL_law_847 (lv_at wd.1 0 rfl) ?_
  refine lv_iconst (v := 1) hx hb dL_law_849 (by decide) ?_
  refine lv_iadd hx hb dL_law_850 ?_
  refine va_sld hx hb hX hbl hbA wd.2.2.2.1 (vpin (i := i + 1) (by rw [a1]; omega) (by rw [a1]; omega)) dL_law_851 ?_
  obtain ⟨n2, r2, σ2, run2, ⟨w2, er2⟩, L2⟩ := rs_holders (a := (xs (i + 1).toNatClampNeg)) L1
  subst er2
  have rm2 := L2.rm
  refine lwc (k := 200) (As := [.int (xs (i + 1).toNatClampNeg)]) (rest := []) C0 hK hA (by decide) gw1601 gw1602 gw1603 dL_law_852 ⟨by decide +kernel, by decide +kernel⟩ run2 L1.ct.1 L1.ct.2 rfl (Nat.le_of_ble_eq_true rfl) (Nat.le_of_ble_eq_true rfl) (by omega) (by omega) wd (fun H locs cells slots wd => ?_)
  show W p l e room_1 s m #[Value.ref b] below meth c H locs cells slots (lw_Z below #[Value.ref b] s) (F0 m 855 ls [.int w2])
  refine lv_pop hx hb dL_law_855 rfl ?_
  refine lv_goto (tgt := 884) hx hb dL_law_856 (by decide) ?_
  exact kk _ _ _ _ _ _ L2 (wd.up (by omega))
set_option maxHeartbeats 2000000 in
theorem lo_sent {p : Program} {l : Launch} {e : Env} {s : State} {m : MethodId} {below : List Frame} {meth : Method} {c : Code} {b L : Nat} {xs : Nat → Int32} {D : va_G} {cy : Nat → ClassId} {A : Nat → Prop} (C0 : lw_At p s m meth c b L xs) (hK : xK D cy s) (hAe : A = fun q : Nat => s.heap.size ≤ q) {j x t qo qa bA : Nat} {B : Nat → Nat} {i : Int32} {σ : ps} {ls : Array Slot} {H : Heap} {locs : List Loc} {cells slots : Nat} (hi : i.toInt = 6 * (j : Int)) (hL : 6 * j + 6 ≤ L) (hL2 : L ≤ 3072) (LI0 : LI s.heap.size j x t qo qa bA B σ) (wd : WdL D cy A s j [(4, .int i), (3, .ref qo), (2, .ref t), (1, .ref x), (0, .ref b)] σ ls H locs cells slots) (kk : ∀ (σ' : ps) (ls : Array Slot) (H : Heap) (locs : List Loc) (cells slots : Nat), LI s.heap.size (j + 1) x t qo qa bA B σ' → WdL D cy A s (j + 1) [(4, .int i), (3, .ref qo), (2, .ref t), (1, .ref x), (0, .ref b)] σ' ls H locs cells slots → W p l e room_1 s m #[Value.ref b] below meth c H locs cells slots (lw_Z below #[Value.ref b] s) (F0 m 884 ls [])) : W p l e room_1 s m #[Value.ref b] below meth c H locs cells slots (lw_Z below #[Value.ref b] s) (F0 m 859 ls []) := by
  obtain ⟨hx, hb, hr, hml, hown, hts9, hX, hbl, hlocks, hgv⟩ := id C0
  have hA : ∀ q : Nat, s.heap.size ≤ q → A q := fun q h => by rw [hAe]; exact h
  have hbA : ¬ A b := by rw [hAe]; exact Nat.not_le.mpr hbl
  have a1 : (i + 1).toInt = 6 * (j : Int) + 1 := by rw [n_add (by rw [hi]; show _ ≤ _ + (1 : Int); omega) (by rw [hi]; show _ + (1 : Int) ≤ _; omega), hi]; rfl
  have a2 : (i + 2).toInt = 6 * (j : Int) + 2 := by rw [n_add (by rw [hi]; show _ ≤ _ + (2 : Int); omega) (by rw [hi]; show _ + (2 : Int) ≤ _; omega), hi]; rfl
  have a3 : (i + 3).toInt = 6 * (j : Int) + 3 := by rw [n_add (by rw [hi]; show _ ≤ _ + (3 : Int); omega) (by rw [hi]; show _ + (3 : Int) ≤ _; omega), hi]; rfl
  have a4 : (i + 4).toInt = 6 * (j : Int) + 4 := by rw [n_add (by rw [hi]; show _ ≤ _ + (4 : Int); omega) (by rw [hi]; show _ + (4 : Int) ≤ _; omega), hi]; rfl
  have a5 : (i + 5).toInt = 6 * (j : Int) + 5 := by rw [n_add (by rw [hi]; show _ ≤ _ + (5 : Int); omega) (by rw [hi]; show _ + (5 : Int) ≤ _; omega), hi]; rfl
  have hj : j ≤ 600 := by omega
  refine lv_aload_n hx hb dL_law_859 rfl (lv_at wd.1 3 rfl) ?_
  refine lv_aload_n hx hb dL_law_860 rfl (lv_at wd.1 4 rfl) ?_
  refine lv_iload hx hb dL_law_861 (lv_at wd.1 0 rfl) ?_
  refine lv_iconst (v := 1) hx hb dL_law_863 (by decide) ?_
  refine lv_iadd hx hb dL_law_864 ?_
  refine va_sld hx hb hX hbl hbA wd.2.2.2.1 (vpin (i := i + 1) (by rw [a1]; omega) (by rw [a1]; omega)) dL_law_865 ?_
  obtain ⟨n1, r1, σ1, run1, ⟨w1, er1⟩, L1⟩ := cs_sent (a := (xs (i + 1).toNatClampNeg)) LI0
  subst er1
  have rm1 := L1.rm
  refine lwc (k := 134) (As := [.int (xs (i + 1).toNatClampNeg)]) (rest := []) C0 hK hA (by decide) gw1011 gw1012 gw1013 dL_law_866 ⟨by decide +kernel, by decide +kernel⟩ run1 LI0.cx.1 LI0.cx.2 rfl (Nat.le_of_ble_eq_true rfl) (Nat.le_of_ble_eq_true rfl) (by omega) (by omega) wd (fun H locs cells slots wd => ?_)
  show W p l e room_1 s m #[Value.ref b] below meth c H locs cells slots (lw_Z below #[Value.ref b] s) (F0 m 869 ls [.int w1])
  refine lv_pop hx hb dL_law_869 rfl ?_
  refine lv_aload_n hx hb dL_law_870 rfl (lv_at wd.1 2 rfl) ?_
  refine lv_aload_n hx hb dL_law_871 rfl (lv_at wd.1 4 rfl) ?_
  refine lv_iload hx hb dL_law_872 (lv_at wd.1 0 rfl) ?_
  refine lv_iconst (v := 1) hx hb dL_law_874 (by decide) ?_
  refine lv_iadd hx hb dL_law_875 ?_
  refine va_sld hx hb hX hbl hbA wd.2.2.2.1 (vpin (i := i + 1) (by rw [a1]; omega) (by rw [a1]; omega)) dL_law_876 ?_
  obtain ⟨n2, r2, σ2, run2, ⟨w2, er2⟩, L2⟩ := rs_sent (a := (xs (i + 1).toNatClampNeg)) L1
  subst er2
  have rm2 := L2.rm
  refine lwc (k := 201) (As := [.int (xs (i + 1).toNatClampNeg)]) (rest := []) C0 hK hA (by decide) gw1605 gw1606 gw1607 dL_law_877 ⟨by decide +kernel, by decide +kernel⟩ run2 L1.ct.1 L1.ct.2 rfl (Nat.le_of_ble_eq_true rfl) (Nat.le_of_ble_eq_true rfl) (by omega) (by omega) wd (fun H locs cells slots wd => ?_)
  show W p l e room_1 s m #[Value.ref b] below meth c H locs cells slots (lw_Z below #[Value.ref b] s) (F0 m 880 ls [.int w2])
  refine lv_pop hx hb dL_law_880 rfl ?_
  refine lv_goto (tgt := 884) hx hb dL_law_881 (by decide) ?_
  exact kk _ _ _ _ _ _ L2 (wd.up (by omega))
