theorem pc_tk_a {t : Nat} {A : Nat → Nat} {hh kd nn a fr : Int32} : ∀ (n : Nat) (c : Int32) (σ : ps) (x : Option Value × ps), Wld t A σ → (0 ≤ c.toInt ∧ PB (vw t A σ) ∧ JV (vw t A σ) ∧ (¬ gI (vw t A σ) 60 0 = 0 → nn.toInt ≤ 8)) → prun n 172 170 [(6, .int c), (2, .int kd), (3, .int nn), (4, .int a), (5, .int fr), (0, .ref t), (1, .int hh)] [] σ = some x → ∃ (m : Nat) (c2 : Int32) (σ' : ps), SP t A σ σ' ∧ PS (vw t A σ) (vw t A σ') ∧ prun m 172 201 [(6, .int c2), (2, .int kd), (3, .int nn), (4, .int a), (5, .int fr), (0, .ref t), (1, .int hh)] [] σ' = some x := by
  intro n
  induction n using Nat.strongRecOn with
  | ind n ih =>
    intro c σ x W I h
    obtain ⟨hc, hB, J, hn⟩ := I
    obtain ⟨n1, l1, h⟩ := v_il h (by decide +kernel : pins 172 170 = some (3, 172, 6, 0, [])) (v := c) rfl
    obtain ⟨n2, l2, h⟩ := v_il h (by decide +kernel : pins 172 172 = some (3, 173, 3, 0, [])) (v := nn) rfl
    obtain ⟨n3, l3, ⟨c173, h⟩ | ⟨c173, h⟩⟩ := u_ic3 h (by decide +kernel : pins 172 173 = some (17, 176, 3, ((201 : Nat) : Int), []))
    · have h := prun_lv h (lv' := [(6, .int c), (2, .int kd), (3, .int nn), (4, .int a), (5, .int fr), (0, .ref t), (1, .int hh)]) (lvLe.cons (lvLe.cons (lvLe.cons (lvLe.cons (lvLe.cons (lvLe.cons (lvLe.cons lvLe.nil rfl) rfl) rfl) rfl) rfl) rfl) rfl) (by decide : ([6, 2, 3, 4, 5, 0, 1] : List Nat).Nodup) (by decide : ([6, 2, 3, 4, 5, 0, 1] : List Nat).Nodup)
      exact ⟨_, _, σ, SP.rf W, PS.rf, h⟩
    · obtain ⟨n4, l4, h⟩ := v_al h (by decide +kernel : pins 172 176 = some (5, 177, 0, 0, [])) (v := t) rfl
      obtain ⟨n5, w177, l5, e177, h⟩ := w_fi (k := 60) W h (by decide +kernel : pins 172 177 = some (22, 180, 13, 60, [])) (by decide)
      obtain ⟨n6, l6, ⟨c180, h⟩ | ⟨c180, h⟩⟩ := u_if0 h (by decide +kernel : pins 172 180 = some (16, 183, 0, ((201 : Nat) : Int), []))
      · have h := prun_lv h (lv' := [(6, .int c), (2, .int kd), (3, .int nn), (4, .int a), (5, .int fr), (0, .ref t), (1, .int hh)]) (lvLe.cons (lvLe.cons (lvLe.cons (lvLe.cons (lvLe.cons (lvLe.cons (lvLe.cons lvLe.nil rfl) rfl) rfl) rfl) rfl) rfl) rfl) (by decide : ([6, 2, 3, 4, 5, 0, 1] : List Nat).Nodup) (by decide : ([6, 2, 3, 4, 5, 0, 1] : List Nat).Nodup)
        exact ⟨_, _, σ, SP.rf W, PS.rf, h⟩
      · obtain ⟨n7, l7, h⟩ := v_al h (by decide +kernel : pins 172 183 = some (5, 184, 0, 0, [])) (v := t) rfl
        obtain ⟨n8, l8, h⟩ := v_il h (by decide +kernel : pins 172 184 = some (3, 186, 6, 0, [])) (v := c) rfl
        obtain ⟨n9, l9, h⟩ := v_al h (by decide +kernel : pins 172 186 = some (5, 187, 0, 0, [])) (v := t) rfl
        obtain ⟨n10, l10, h⟩ := w_row (k := 64) W h (by decide +kernel : pins 172 187 = some (22, 190, 13, 64, [])) (by decide)
        obtain ⟨n11, w190, l11, ⟨e190, i190⟩, h⟩ := u_ic h (by decide +kernel : pins 172 190 = some (0, 191, 0, 0, [])) (by decide)
        obtain ⟨n12, w191, l12, b191, e191, h⟩ := w_iald W h (by decide +kernel : pins 172 191 = some (24, 192, 0, 0, [])) (by decide)
        obtain ⟨n13, r192, s192, l13, h192, h⟩ := pinv_call h (by decide +kernel : pins 172 192 = some (36, 195, 171, 0, [3]))
        have h192 : prun n13 171 0 (lv_args 0 [.ref t, .int c, .int w191]) [] σ = some (r192, s192) := h192
        have n8 := hn (by intro q; apply c180; rw [e177, q]; rfl)
        obtain ⟨er192, S192, p192, k192⟩ := pc_takeTold W h192 (hB) (J) (⟨by omega, by omega⟩)
        have er192 : r192 = none := er192
        subst er192
        try dsimp only at S192
        try dsimp only at p192
        try dsimp only at k192
        have h : prun n13 172 195 [(6, .int c), (2, .int kd), (3, .int nn), (4, .int a), (5, .int fr), (0, .ref t), (1, .int hh)] [] s192 = some x := h
        obtain ⟨n14, w195, l14, e195, h⟩ := u_inc h (by decide +kernel : pins 172 195 = some (9, 198, 6, 1, [])) (v := c) rfl
        have h : prun n14 172 198 [(6, .int w195), (2, .int kd), (3, .int nn), (4, .int a), (5, .int fr), (0, .ref t), (1, .int hh)] [] s192 = some x := h
        obtain ⟨n15, l15, h⟩ := u_go h (by decide +kernel : pins 172 198 = some (20, 201, 0, ((170 : Nat) : Int), []))
        have h := prun_lv h (lv' := [(6, .int w195), (2, .int kd), (3, .int nn), (4, .int a), (5, .int fr), (0, .ref t), (1, .int hh)]) (lvLe.cons (lvLe.cons (lvLe.cons (lvLe.cons (lvLe.cons (lvLe.cons (lvLe.cons lvLe.nil rfl) rfl) rfl) rfl) rfl) rfl) rfl) (by decide : ([6, 2, 3, 4, 5, 0, 1] : List Nat).Nodup) (by decide : ([6, 2, 3, 4, 5, 0, 1] : List Nat).Nodup)
        have q195 : w195.toInt = c.toInt + 1 := addc e195 (by decide : (Int32.ofInt 1).toInt = 1) (by omega) (by omega) (by decide) (by decide)
        obtain ⟨m, c2, σ2, y1, y2, y3⟩ := ih n15 (by omega) _ _ x S192.1 ⟨by omega, hB.of p192, p192.2.2 J, fun g => hn (p192.2.1 g)⟩ h
        exact ⟨m, c2, σ2, S192.tr y1, p192.tr y2, y3⟩
def LF (V : Nat → Nat → Value) : Prop := (∃ v : Int32, gI V 66 0 = (v <<< (8 : Int32)) ||| gI V 57 7) ∧ 0 ≤ (gI V 66 0).toInt ∧ 8 ≤ (gI V 58 0).toInt
/-- what is known while records are read: c of them stand -/
def RG (V : Nat → Nat → Value) (c nn : Int) : Prop := ¬ gI V 60 0 = 0 → nn ≤ 8 ∧ (∀ k : Nat, (k : Int) < c → Wok V 62 (16 * k)) ∧ (c = 0 → (gI V 59 0).toInt = 2) ∧ (1 ≤ c → LF V)
theorem Wok.of {V V' : Nat → Nat → Value} {i : Nat} (h : ∀ q, i ≤ q → q < i + 16 → V' 62 q = V 62 q) (w : Wok V 62 i) : Wok V' 62 i := by
  have e0 : gI V' 62 i = gI V 62 i := by unfold gI; rw [h i (by omega) (by omega)]
  refine ⟨by rw [e0]; exact w.1, fun d d1 d2 => ?_⟩
  rw [e0] at d2
  have hl := w.1
  have e1 : gI V' 62 (i + d) = gI V 62 (i + d) := by unfold gI; rw [h (i + d) (by omega) (by omega)]
  rw [e1]
  exact w.2 d d1 d2
set_option maxHeartbeats 2000000 in
theorem pc_tk_b {t : Nat} {A : Nat → Nat} {hh kd nn a fr : Int32} : ∀ (n : Nat) (c : Int32) (σ : ps) (x : Option Value × ps), Wld t A σ → (0 ≤ c.toInt ∧ PB (vw t A σ) ∧ JV (vw t A σ) ∧ RG (vw t A σ) c.toInt nn.toInt) → prun n 172 234 [(6, .int c), (2, .int kd), (3, .int nn), (4, .int a), (5, .int fr), (0, .ref t), (1, .int hh)] [] σ = some x → ∃ (m : Nat) (c2 : Int32) (σ' : ps), SP t A σ σ' ∧ PS (vw t A σ) (vw t A σ') ∧ (¬ gI (vw t A σ') 60 0 = 0 → nn.toInt ≤ 8 ∧ (∀ k : Nat, (k : Int) < nn.toInt → Wok (vw t A σ') 62 (16 * k)) ∧ (1 ≤ nn.toInt → LF (vw t A σ'))) ∧ prun m 172 377 [(6, .int c2), (2, .int kd), (3, .int nn), (4, .int a), (5, .int fr), (0, .ref t), (1, .int hh)] [] σ' = some x := by
  intro n
  induction n using Nat.strongRecOn with
  | ind n ih =>
    intro c σ x W I h
    obtain ⟨hc, hB, J, hG⟩ := I
    obtain ⟨n1, l1, h⟩ := v_il h (by decide +kernel : pins 172 234 = some (3, 236, 6, 0, [])) (v := c) rfl
    obtain ⟨n2, l2, h⟩ := v_il h (by decide +kernel : pins 172 236 = some (3, 237, 3, 0, [])) (v := nn) rfl
    obtain ⟨n3, l3, ⟨c237, h⟩ | ⟨c237, h⟩⟩ := u_ic3 h (by decide +kernel : pins 172 237 = some (17, 240, 3, ((377 : Nat) : Int), []))
    · have h := prun_lv h (lv' := [(6, .int c), (2, .int kd), (3, .int nn), (4, .int a), (5, .int fr), (0, .ref t), (1, .int hh)]) (lvLe.cons (lvLe.cons (lvLe.cons (lvLe.cons (lvLe.cons (lvLe.cons (lvLe.cons lvLe.nil rfl) rfl) rfl) rfl) rfl) rfl) rfl) (by decide : ([6, 2, 3, 4, 5, 0, 1] : List Nat).Nodup) (by decide : ([6, 2, 3, 4, 5, 0, 1] : List Nat).Nodup)
      refine ⟨_, _, σ, SP.rf W, PS.rf, fun g => ?_, h⟩
      obtain ⟨r1, r2, r3, r4⟩ := hG g
      exact ⟨r1, fun k hk => r2 k (by omega), fun hn => r4 (by omega)⟩
    · obtain ⟨n4, l4, h⟩ := v_al h (by decide +kernel : pins 172 240 = some (5, 241, 0, 0, [])) (v := t) rfl
      obtain ⟨n5, w241, l5, e241, h⟩ := w_fi (k := 60) W h (by decide +kernel : pins 172 241 = some (22, 244, 13, 60, [])) (by decide)
      obtain ⟨n6, l6, ⟨c244, h⟩ | ⟨c244, h⟩⟩ := u_if0 h (by decide +kernel : pins 172 244 = some (16, 247, 0, ((377 : Nat) : Int), []))
      · have h := prun_lv h (lv' := [(6, .int c), (2, .int kd), (3, .int nn), (4, .int a), (5, .int fr), (0, .ref t), (1, .int hh)]) (lvLe.cons (lvLe.cons (lvLe.cons (lvLe.cons (lvLe.cons (lvLe.cons (lvLe.cons lvLe.nil rfl) rfl) rfl) rfl) rfl) rfl) rfl) (by decide : ([6, 2, 3, 4, 5, 0, 1] : List Nat).Nodup) (by decide : ([6, 2, 3, 4, 5, 0, 1] : List Nat).Nodup)
        refine ⟨_, _, σ, SP.rf W, PS.rf, fun g => ?_, h⟩
        obtain ⟨r1, r2, r3, r4⟩ := hG g
        exact absurd (Int32.toInt_inj.mp (by rw [← e241]; exact c244)) g
      · obtain ⟨n7, l7, h⟩ := v_al h (by decide +kernel : pins 172 247 = some (5, 248, 0, 0, [])) (v := t) rfl
        obtain ⟨n8, l8, h⟩ := w_row (k := 64) W h (by decide +kernel : pins 172 248 = some (22, 251, 13, 64, [])) (by decide)
        obtain ⟨n9, l9, h⟩ := v_il h (by decide +kernel : pins 172 251 = some (3, 253, 6, 0, [])) (v := c) rfl
        obtain ⟨n10, l10, h⟩ := v_al h (by decide +kernel : pins 172 253 = some (5, 254, 0, 0, [])) (v := t) rfl
        obtain ⟨n11, w254, l11, ⟨e254, i254⟩, h⟩ := u_ic h (by decide +kernel : pins 172 254 = some (0, 255, 1, 0, [])) (by decide)
        obtain ⟨n12, r255, s255, l12, h255, h⟩ := pinv_call h (by decide +kernel : pins 172 255 = some (36, 258, 168, 0, [2]))
        have h255 : prun n12 168 0 (lv_args 0 [.ref t, .int w254]) [] σ = some (r255, s255) := h255
        obtain ⟨w255, er255, S255, f255⟩ := take_1 W h255 e254
        have er255 : r255 = some (.int w255) := er255
        subst er255
        try dsimp only at S255
        try dsimp only at f255
        obtain ⟨ps255, kg255⟩ : PS (vw t A σ) (vw t A s255) ∧ KG (vw t A σ) (vw t A s255) := take_ps (P := True) (f255.imp_right (fun q => ⟨trivial, q.2.2.2.2.imp (fun _ z => z.2)⟩))
        have h : prun n12 172 258 [(6, .int c), (2, .int kd), (3, .int nn), (4, .int a), (5, .int fr), (0, .ref t), (1, .int hh)] [.int w255, .int c, .ref (A 64)] s255 = some x := h
        obtain ⟨n13, s258, l13, b258, S258, u258, h⟩ := w_iast S255.1 h (by decide +kernel : pins 172 258 = some (28, 259, 0, 0, [])) (by decide)
        obtain ⟨n14, l14, h⟩ := v_al h (by decide +kernel : pins 172 259 = some (5, 260, 0, 0, [])) (v := t) rfl
        obtain ⟨n15, l15, h⟩ := w_row (k := 65) S258.1 h (by decide +kernel : pins 172 260 = some (22, 263, 13, 65, [])) (by decide)
        obtain ⟨n16, l16, h⟩ := v_il h (by decide +kernel : pins 172 263 = some (3, 265, 6, 0, [])) (v := c) rfl
        obtain ⟨n17, l17, h⟩ := v_al h (by decide +kernel : pins 172 265 = some (5, 266, 0, 0, [])) (v := t) rfl
        obtain ⟨n18, w266, l18, ⟨e266, i266⟩, h⟩ := u_ic h (by decide +kernel : pins 172 266 = some (0, 267, 1, 0, [])) (by decide)
        obtain ⟨n19, r267, s267, l19, h267, h⟩ := pinv_call h (by decide +kernel : pins 172 267 = some (36, 270, 168, 0, [2]))
        have h267 : prun n19 168 0 (lv_args 0 [.ref t, .int w266]) [] s258 = some (r267, s267) := h267
        obtain ⟨w267, er267, S267, f267⟩ := take_1 S258.1 h267 e266
        have er267 : r267 = some (.int w267) := er267
        subst er267
        try dsimp only at S267
        try dsimp only at f267
        obtain ⟨ps267, kg267⟩ : PS (vw t A s258) (vw t A s267) ∧ KG (vw t A s258) (vw t A s267) := take_ps (P := True) (f267.imp_right (fun q => ⟨trivial, q.2.2.2.2.imp (fun _ z => z.2)⟩))
        have h : prun n19 172 270 [(6, .int c), (2, .int kd), (3, .int nn), (4, .int a), (5, .int fr), (0, .ref t), (1, .int hh)] [.int w267, .int c, .ref (A 65)] s267 = some x := h
        obtain ⟨n20, s270, l20, b270, S270, u270, h⟩ := w_iast S267.1 h (by decide +kernel : pins 172 270 = some (28, 271, 0, 0, [])) (by decide)
        obtain ⟨n21, l21, h⟩ := v_al h (by decide +kernel : pins 172 271 = some (5, 272, 0, 0, [])) (v := t) rfl
        obtain ⟨n22, l22, h⟩ := w_row (k := 66) S270.1 h (by decide +kernel : pins 172 272 = some (22, 275, 13, 66, [])) (by decide)
        obtain ⟨n23, l23, h⟩ := v_il h (by decide +kernel : pins 172 275 = some (3, 277, 6, 0, [])) (v := c) rfl
        obtain ⟨n24, l24, h⟩ := v_al h (by decide +kernel : pins 172 277 = some (5, 278, 0, 0, [])) (v := t) rfl
        obtain ⟨n25, w278, l25, ⟨e278, i278⟩, h⟩ := u_ic h (by decide +kernel : pins 172 278 = some (0, 279, 4, 0, [])) (by decide)
        obtain ⟨n26, r279, s279, l26, h279, h⟩ := pinv_call h (by decide +kernel : pins 172 279 = some (36, 282, 168, 0, [2]))
        have h279 : prun n26 168 0 (lv_args 0 [.ref t, .int w278]) [] s270 = some (r279, s279) := h279
        obtain ⟨w279, er279, S279, f279⟩ := take_4 S270.1 h279 e278
        have er279 : r279 = some (.int w279) := er279
        subst er279
        try dsimp only at S279
        try dsimp only at f279
        obtain ⟨ps279, kg279⟩ : PS (vw t A s270) (vw t A s279) ∧ KG (vw t A s270) (vw t A s279) := take_ps (P := True) (f279.imp_right (fun q => ⟨trivial, q.2.2.2.2.imp (fun _ z => z.2)⟩))
        have h : prun n26 172 282 [(6, .int c), (2, .int kd), (3, .int nn), (4, .int a), (5, .int fr), (0, .ref t), (1, .int hh)] [.int w279, .int c, .ref (A 66)] s279 = some x := h
        obtain ⟨n27, s282, l27, b282, S282, u282, h⟩ := w_iast S279.1 h (by decide +kernel : pins 172 282 = some (28, 283, 0, 0, [])) (by decide)
        obtain ⟨n28, l28, h⟩ := v_al h (by decide +kernel : pins 172 283 = some (5, 284, 0, 0, [])) (v := t) rfl
        obtain ⟨n29, l29, h⟩ := w_row (k := 64) S282.1 h (by decide +kernel : pins 172 284 = some (22, 287, 13, 64, [])) (by decide)
        obtain ⟨n30, l30, h⟩ := v_il h (by decide +kernel : pins 172 287 = some (3, 289, 6, 0, [])) (v := c) rfl
        obtain ⟨n31, w289, l31, b289, e289, h⟩ := w_iald S282.1 h (by decide +kernel : pins 172 289 = some (24, 290, 0, 0, [])) (by decide)
        obtain ⟨n32, w290, l32, ⟨e290, i290⟩, h⟩ := u_ic h (by decide +kernel : pins 172 290 = some (0, 291, 1, 0, [])) (by decide)
        obtain ⟨n33, l33, ⟨c291, h⟩ | ⟨c291, h⟩⟩ := u_ic2 h (by decide +kernel : pins 172 291 = some (17, 294, 2, ((326 : Nat) : Int), []))
        · obtain ⟨n34, l34, h⟩ := v_al h (by decide +kernel : pins 172 326 = some (5, 327, 0, 0, [])) (v := t) rfl
          obtain ⟨n35, w327, l35, ⟨e327, i327⟩, h⟩ := u_ic h (by decide +kernel : pins 172 327 = some (0, 328, 0, 0, [])) (by decide)
          obtain ⟨n36, s328, l36, S328, u328, h⟩ := w_put (k := 60) S282.1 h (by decide +kernel : pins 172 328 = some (23, 331, 13, 60, [])) (by decide)
          obtain ⟨n37, l37, h⟩ := v_al h (by decide +kernel : pins 172 331 = some (5, 332, 0, 0, [])) (v := t) rfl
          obtain ⟨n38, w332, l38, e332, h⟩ := w_fi (k := 60) S328.1 h (by decide +kernel : pins 172 332 = some (22, 335, 13, 60, [])) (by decide)
          obtain ⟨n39, l39, ⟨c335, h⟩ | ⟨c335, h⟩⟩ := u_if0 h (by decide +kernel : pins 172 335 = some (16, 338, 0, ((351 : Nat) : Int), []))
          · obtain ⟨n40, l40, h⟩ := v_al h (by decide +kernel : pins 172 351 = some (5, 352, 0, 0, [])) (v := t) rfl
            obtain ⟨n41, w352, l41, e352, h⟩ := w_fi (k := 60) S328.1 h (by decide +kernel : pins 172 352 = some (22, 355, 13, 60, [])) (by decide)
            obtain ⟨n42, l42, ⟨c355, h⟩ | ⟨c355, h⟩⟩ := u_if0 h (by decide +kernel : pins 172 355 = some (16, 358, 0, ((371 : Nat) : Int), []))
            · obtain ⟨n43, w371, l43, e371, h⟩ := u_inc h (by decide +kernel : pins 172 371 = some (9, 374, 6, 1, [])) (v := c) rfl
              have h : prun n43 172 374 [(6, .int w371), (2, .int kd), (3, .int nn), (4, .int a), (5, .int fr), (0, .ref t), (1, .int hh)] [] s328 = some x := h
              obtain ⟨n44, l44, h⟩ := u_go h (by decide +kernel : pins 172 374 = some (20, 377, 0, ((234 : Nat) : Int), []))
              have h := prun_lv h (lv' := [(6, .int w371), (2, .int kd), (3, .int nn), (4, .int a), (5, .int fr), (0, .ref t), (1, .int hh)]) (lvLe.cons (lvLe.cons (lvLe.cons (lvLe.cons (lvLe.cons (lvLe.cons (lvLe.cons lvLe.nil rfl) rfl) rfl) rfl) rfl) rfl) rfl) (by decide : ([6, 2, 3, 4, 5, 0, 1] : List Nat).Nodup) (by decide : ([6, 2, 3, 4, 5, 0, 1] : List Nat).Nodup)
              have b258 : 0 ≤ c.toInt ∧ c.toInt < 16 := b258
              have q371 : w371.toInt = c.toInt + 1 := addc e371 (by decide : (Int32.ofInt 1).toInt = 1) (by omega) (by omega) (by decide) (by decide)
              have x258 : PS (vw t A s255) (vw t A s258) := by rw [u258]; exact PS.upr (Or.inl (by decide)) (by decide)
              have x270 : PS (vw t A s267) (vw t A s270) := by rw [u270]; exact PS.upr (Or.inl (by decide)) (by decide)
              have x282 : PS (vw t A s279) (vw t A s282) := by rw [u282]; exact PS.upr (Or.inl (by decide)) (by decide)
              have x328 : PS (vw t A s282) (vw t A s328) := by rw [u328]; exact PS.bad e327
              have PP : PS (vw t A σ) (vw t A s328) := ((((((ps255.tr x258).tr ps267).tr x270).tr ps279).tr x282).tr x328)
              have RGn : RG (vw t A s328) w371.toInt nn.toInt := by
                intro g
                exfalso
                exact absurd (by rw [u328, gI_sc (by decide), e327]; rfl : gI (vw t A s328) 60 0 = 0) g
              obtain ⟨m, c2, σ2, y1, y2, y4, y3⟩ := ih n44 (by omega) _ _ x S328.1 ⟨by omega, hB.of PP, PP.2.2 J, RGn⟩ h
              exact ⟨m, c2, σ2, ((((((S255.tr S258).tr S267).tr S270).tr S279).tr S282).tr S328).tr y1, PP.tr y2, y4, y3⟩
            · exact absurd (by rw [e352, ← e332]; exact c335) c355
          · obtain ⟨n45, l45, h⟩ := v_al h (by decide +kernel : pins 172 338 = some (5, 339, 0, 0, [])) (v := t) rfl
            obtain ⟨n46, l46, h⟩ := v_al h (by decide +kernel : pins 172 339 = some (5, 340, 0, 0, [])) (v := t) rfl
            obtain ⟨n47, l47, h⟩ := w_row (k := 62) S328.1 h (by decide +kernel : pins 172 340 = some (22, 343, 13, 62, [])) (by decide)
            obtain ⟨n48, w343, l48, ⟨e343, i343⟩, h⟩ := u_ic h (by decide +kernel : pins 172 343 = some (0, 345, 16, 0, [])) (by decide)
            obtain ⟨n49, l49, h⟩ := v_il h (by decide +kernel : pins 172 345 = some (3, 347, 6, 0, [])) (v := c) rfl
            obtain ⟨n50, w347, l50, e347, h⟩ := u_mul h (by decide +kernel : pins 172 347 = some (10, 348, 2, 0, []))
            obtain ⟨n51, r348, s348, l51, h348, h⟩ := pinv_call h (by decide +kernel : pins 172 348 = some (36, 351, 170, 0, [3]))
            have h348 : prun n51 170 0 (lv_args 0 [.ref t, .ref (A 62), .int w347]) [] s328 = some (r348, s348) := h348
            have b258 : 0 ≤ c.toInt ∧ c.toInt < 16 := b258
            have y258 : PS (vw t A s255) (vw t A s258) := by rw [u258]; exact PS.upr (Or.inl (by decide)) (by decide)
            have y270 : PS (vw t A s267) (vw t A s270) := by rw [u270]; exact PS.upr (Or.inl (by decide)) (by decide)
            have y282 : PS (vw t A s279) (vw t A s282) := by rw [u282]; exact PS.upr (Or.inl (by decide)) (by decide)
            have y328 : PS (vw t A s282) (vw t A s328) := by rw [u328]; exact PS.bad e327
            have Pw : PS (vw t A σ) (vw t A s328) := (((((ps255.tr y258).tr ps267).tr y270).tr ps279).tr y282).tr y328
            have q347 : w347.toInt = 16 * c.toInt := by rw [e347, n_mul (by rw [i343]; omega) (by rw [i343]; omega), i343]
            obtain ⟨er348, S348, f348, z348, g348, J348⟩ := takeWord_ S328.1 h348 (by decide) (⟨by omega, by omega⟩) ((hB.of Pw).2) (Pw.2.2 J)
            have er348 : r348 = none := er348
            subst er348
            try dsimp only at S348
            try dsimp only at f348
            try dsimp only at z348
            try dsimp only at g348
            try dsimp only at J348
            have ps348 : PS (vw t A s328) (vw t A s348) := tw_ps (k := 62) (by decide) f348 g348 J348
            have g348w := g348
            have h : prun n51 172 351 [(6, .int c), (2, .int kd), (3, .int nn), (4, .int a), (5, .int fr), (0, .ref t), (1, .int hh)] [] s348 = some x := h
            obtain ⟨n52, l52, h⟩ := v_al h (by decide +kernel : pins 172 351 = some (5, 352, 0, 0, [])) (v := t) rfl
            obtain ⟨n53, w352, l53, e352, h⟩ := w_fi (k := 60) S348.1 h (by decide +kernel : pins 172 352 = some (22, 355, 13, 60, [])) (by decide)
            obtain ⟨n54, l54, ⟨c355, h⟩ | ⟨c355, h⟩⟩ := u_if0 h (by decide +kernel : pins 172 355 = some (16, 358, 0, ((371 : Nat) : Int), []))
            · obtain ⟨n55, w371, l55, e371, h⟩ := u_inc h (by decide +kernel : pins 172 371 = some (9, 374, 6, 1, [])) (v := c) rfl
              have h : prun n55 172 374 [(6, .int w371), (2, .int kd), (3, .int nn), (4, .int a), (5, .int fr), (0, .ref t), (1, .int hh)] [] s348 = some x := h
              obtain ⟨n56, l56, h⟩ := u_go h (by decide +kernel : pins 172 374 = some (20, 377, 0, ((234 : Nat) : Int), []))
              have h := prun_lv h (lv' := [(6, .int w371), (2, .int kd), (3, .int nn), (4, .int a), (5, .int fr), (0, .ref t), (1, .int hh)]) (lvLe.cons (lvLe.cons (lvLe.cons (lvLe.cons (lvLe.cons (lvLe.cons (lvLe.cons lvLe.nil rfl) rfl) rfl) rfl) rfl) rfl) rfl) (by decide : ([6, 2, 3, 4, 5, 0, 1] : List Nat).Nodup) (by decide : ([6, 2, 3, 4, 5, 0, 1] : List Nat).Nodup)
              have b258 : 0 ≤ c.toInt ∧ c.toInt < 16 := b258
              have q371 : w371.toInt = c.toInt + 1 := addc e371 (by decide : (Int32.ofInt 1).toInt = 1) (by omega) (by omega) (by decide) (by decide)
              have x258 : PS (vw t A s255) (vw t A s258) := by rw [u258]; exact PS.upr (Or.inl (by decide)) (by decide)
              have x270 : PS (vw t A s267) (vw t A s270) := by rw [u270]; exact PS.upr (Or.inl (by decide)) (by decide)
              have x282 : PS (vw t A s279) (vw t A s282) := by rw [u282]; exact PS.upr (Or.inl (by decide)) (by decide)
              have x328 : PS (vw t A s282) (vw t A s328) := by rw [u328]; exact PS.bad e327
              have PP : PS (vw t A σ) (vw t A s348) := (((((((ps255.tr x258).tr ps267).tr x270).tr ps279).tr x282).tr x328).tr ps348)
              have RGn : RG (vw t A s348) w371.toInt nn.toInt := by
                intro g
                exfalso
                exact absurd (by rw [u328, gI_sc (by decide), e327]; rfl : gI (vw t A s328) 60 0 = 0) (ps348.2.1 g)
              obtain ⟨m, c2, σ2, y1, y2, y4, y3⟩ := ih n56 (by omega) _ _ x S348.1 ⟨by omega, hB.of PP, PP.2.2 J, RGn⟩ h
              exact ⟨m, c2, σ2, (((((((S255.tr S258).tr S267).tr S270).tr S279).tr S282).tr S328).tr S348).tr y1, PP.tr y2, y4, y3⟩
            · obtain ⟨n57, l57, h⟩ := v_al h (by decide +kernel : pins 172 358 = some (5, 359, 0, 0, [])) (v := t) rfl
              obtain ⟨n58, l58, h⟩ := v_il h (by decide +kernel : pins 172 359 = some (3, 361, 6, 0, [])) (v := c) rfl
              obtain ⟨n59, l59, h⟩ := v_al h (by decide +kernel : pins 172 361 = some (5, 362, 0, 0, [])) (v := t) rfl
              obtain ⟨n60, l60, h⟩ := w_row (k := 64) S348.1 h (by decide +kernel : pins 172 362 = some (22, 365, 13, 64, [])) (by decide)
              obtain ⟨n61, l61, h⟩ := v_il h (by decide +kernel : pins 172 365 = some (3, 367, 6, 0, [])) (v := c) rfl
              obtain ⟨n62, w367, l62, b367, e367, h⟩ := w_iald S348.1 h (by decide +kernel : pins 172 367 = some (24, 368, 0, 0, [])) (by decide)
              obtain ⟨n63, r368, s368, l63, h368, h⟩ := pinv_call h (by decide +kernel : pins 172 368 = some (36, 371, 171, 0, [3]))
              have h368 : prun n63 171 0 (lv_args 0 [.ref t, .int c, .int w367]) [] s348 = some (r368, s368) := h368
              have b258 : 0 ≤ c.toInt ∧ c.toInt < 16 := b258
              have P3 : PS (vw t A σ) (vw t A s348) := Pw.tr ps348
              obtain ⟨er368, S368, p368, k368⟩ := pc_takeTold S348.1 h368 (hB.of P3) (P3.2.2 J) (⟨by omega, by omega⟩)
              have er368 : r368 = none := er368
              subst er368
              try dsimp only at S368
              try dsimp only at p368
              try dsimp only at k368
              have h : prun n63 172 371 [(6, .int c), (2, .int kd), (3, .int nn), (4, .int a), (5, .int fr), (0, .ref t), (1, .int hh)] [] s368 = some x := h
              obtain ⟨n64, w371, l64, e371, h⟩ := u_inc h (by decide +kernel : pins 172 371 = some (9, 374, 6, 1, [])) (v := c) rfl
              have h : prun n64 172 374 [(6, .int w371), (2, .int kd), (3, .int nn), (4, .int a), (5, .int fr), (0, .ref t), (1, .int hh)] [] s368 = some x := h
              obtain ⟨n65, l65, h⟩ := u_go h (by decide +kernel : pins 172 374 = some (20, 377, 0, ((234 : Nat) : Int), []))
              have h := prun_lv h (lv' := [(6, .int w371), (2, .int kd), (3, .int nn), (4, .int a), (5, .int fr), (0, .ref t), (1, .int hh)]) (lvLe.cons (lvLe.cons (lvLe.cons (lvLe.cons (lvLe.cons (lvLe.cons (lvLe.cons lvLe.nil rfl) rfl) rfl) rfl) rfl) rfl) rfl) (by decide : ([6, 2, 3, 4, 5, 0, 1] : List Nat).Nodup) (by decide : ([6, 2, 3, 4, 5, 0, 1] : List Nat).Nodup)
              have b258 : 0 ≤ c.toInt ∧ c.toInt < 16 := b258
              have q371 : w371.toInt = c.toInt + 1 := addc e371 (by decide : (Int32.ofInt 1).toInt = 1) (by omega) (by omega) (by decide) (by decide)
              have x258 : PS (vw t A s255) (vw t A s258) := by rw [u258]; exact PS.upr (Or.inl (by decide)) (by decide)
              have x270 : PS (vw t A s267) (vw t A s270) := by rw [u270]; exact PS.upr (Or.inl (by decide)) (by decide)
              have x282 : PS (vw t A s279) (vw t A s282) := by rw [u282]; exact PS.upr (Or.inl (by decide)) (by decide)
              have x328 : PS (vw t A s282) (vw t A s328) := by rw [u328]; exact PS.bad e327
              have PP : PS (vw t A σ) (vw t A s368) := ((((((((ps255.tr x258).tr ps267).tr x270).tr ps279).tr x282).tr x328).tr ps348).tr p368)
              have RGn : RG (vw t A s368) w371.toInt nn.toInt := by
                intro g
                exfalso
                exact absurd (by rw [u328, gI_sc (by decide), e327]; rfl : gI (vw t A s328) 60 0 = 0) (ps348.2.1 (p368.2.1 g))
              obtain ⟨m, c2, σ2, y1, y2, y4, y3⟩ := ih n65 (by omega) _ _ x S368.1 ⟨by omega, hB.of PP, PP.2.2 J, RGn⟩ h
              exact ⟨m, c2, σ2, ((((((((S255.tr S258).tr S267).tr S270).tr S279).tr S282).tr S328).tr S348).tr S368).tr y1, PP.tr y2, y4, y3⟩
        · obtain ⟨n66, l66, h⟩ := v_al h (by decide +kernel : pins 172 294 = some (5, 295, 0, 0, [])) (v := t) rfl
          obtain ⟨n67, l67, h⟩ := w_row (k := 64) S282.1 h (by decide +kernel : pins 172 295 = some (22, 298, 13, 64, [])) (by decide)
          obtain ⟨n68, l68, h⟩ := v_il h (by decide +kernel : pins 172 298 = some (3, 300, 6, 0, [])) (v := c) rfl
          obtain ⟨n69, w300, l69, b300, e300, h⟩ := w_iald S282.1 h (by decide +kernel : pins 172 300 = some (24, 301, 0, 0, [])) (by decide)
          obtain ⟨n70, w301, l70, ⟨e301, i301⟩, h⟩ := u_ic h (by decide +kernel : pins 172 301 = some (0, 302, 2, 0, [])) (by decide)
          obtain ⟨n71, l71, ⟨c302, h⟩ | ⟨c302, h⟩⟩ := u_ic4 h (by decide +kernel : pins 172 302 = some (17, 305, 4, ((326 : Nat) : Int), []))
          · obtain ⟨n72, l72, h⟩ := v_al h (by decide +kernel : pins 172 326 = some (5, 327, 0, 0, [])) (v := t) rfl
            obtain ⟨n73, w327, l73, ⟨e327, i327⟩, h⟩ := u_ic h (by decide +kernel : pins 172 327 = some (0, 328, 0, 0, [])) (by decide)
            obtain ⟨n74, s328, l74, S328, u328, h⟩ := w_put (k := 60) S282.1 h (by decide +kernel : pins 172 328 = some (23, 331, 13, 60, [])) (by decide)
            obtain ⟨n75, l75, h⟩ := v_al h (by decide +kernel : pins 172 331 = some (5, 332, 0, 0, [])) (v := t) rfl
            obtain ⟨n76, w332, l76, e332, h⟩ := w_fi (k := 60) S328.1 h (by decide +kernel : pins 172 332 = some (22, 335, 13, 60, [])) (by decide)
            obtain ⟨n77, l77, ⟨c335, h⟩ | ⟨c335, h⟩⟩ := u_if0 h (by decide +kernel : pins 172 335 = some (16, 338, 0, ((351 : Nat) : Int), []))
            · obtain ⟨n78, l78, h⟩ := v_al h (by decide +kernel : pins 172 351 = some (5, 352, 0, 0, [])) (v := t) rfl
              obtain ⟨n79, w352, l79, e352, h⟩ := w_fi (k := 60) S328.1 h (by decide +kernel : pins 172 352 = some (22, 355, 13, 60, [])) (by decide)
              obtain ⟨n80, l80, ⟨c355, h⟩ | ⟨c355, h⟩⟩ := u_if0 h (by decide +kernel : pins 172 355 = some (16, 358, 0, ((371 : Nat) : Int), []))
              · obtain ⟨n81, w371, l81, e371, h⟩ := u_inc h (by decide +kernel : pins 172 371 = some (9, 374, 6, 1, [])) (v := c) rfl
                have h : prun n81 172 374 [(6, .int w371), (2, .int kd), (3, .int nn), (4, .int a), (5, .int fr), (0, .ref t), (1, .int hh)] [] s328 = some x := h
                obtain ⟨n82, l82, h⟩ := u_go h (by decide +kernel : pins 172 374 = some (20, 377, 0, ((234 : Nat) : Int), []))
                have h := prun_lv h (lv' := [(6, .int w371), (2, .int kd), (3, .int nn), (4, .int a), (5, .int fr), (0, .ref t), (1, .int hh)]) (lvLe.cons (lvLe.cons (lvLe.cons (lvLe.cons (lvLe.cons (lvLe.cons (lvLe.cons lvLe.nil rfl) rfl) rfl) rfl) rfl) rfl) rfl) (by decide : ([6, 2, 3, 4, 5, 0, 1] : List Nat).Nodup) (by decide : ([6, 2, 3, 4, 5, 0, 1] : List Nat).Nodup)
                have b258 : 0 ≤ c.toInt ∧ c.toInt < 16 := b258
                have q371 : w371.toInt = c.toInt + 1 := addc e371 (by decide : (Int32.ofInt 1).toInt = 1) (by omega) (by omega) (by decide) (by decide)
                have x258 : PS (vw t A s255) (vw t A s258) := by rw [u258]; exact PS.upr (Or.inl (by decide)) (by decide)
                have x270 : PS (vw t A s267) (vw t A s270) := by rw [u270]; exact PS.upr (Or.inl (by decide)) (by decide)
                have x282 : PS (vw t A s279) (vw t A s282) := by rw [u282]; exact PS.upr (Or.inl (by decide)) (by decide)
                have x328 : PS (vw t A s282) (vw t A s328) := by rw [u328]; exact PS.bad e327
                have PP : PS (vw t A σ) (vw t A s328) := ((((((ps255.tr x258).tr ps267).tr x270).tr ps279).tr x282).tr x328)
                have RGn : RG (vw t A s328) w371.toInt nn.toInt := by
                  intro g
                  exfalso
                  exact absurd (by rw [u328, gI_sc (by decide), e327]; rfl : gI (vw t A s328) 60 0 = 0) g
                obtain ⟨m, c2, σ2, y1, y2, y4, y3⟩ := ih n82 (by omega) _ _ x S328.1 ⟨by omega, hB.of PP, PP.2.2 J, RGn⟩ h
                exact ⟨m, c2, σ2, ((((((S255.tr S258).tr S267).tr S270).tr S279).tr S282).tr S328).tr y1, PP.tr y2, y4, y3⟩
              · exact absurd (by rw [e352, ← e332]; exact c335) c355
            · obtain ⟨n83, l83, h⟩ := v_al h (by decide +kernel : pins 172 338 = some (5, 339, 0, 0, [])) (v := t) rfl
              obtain ⟨n84, l84, h⟩ := v_al h (by decide +kernel : pins 172 339 = some (5, 340, 0, 0, [])) (v := t) rfl
              obtain ⟨n85, l85, h⟩ := w_row (k := 62) S328.1 h (by decide +kernel : pins 172 340 = some (22, 343, 13, 62, [])) (by decide)
              obtain ⟨n86, w343, l86, ⟨e343, i343⟩, h⟩ := u_ic h (by decide +kernel : pins 172 343 = some (0, 345, 16, 0, [])) (by decide)
              obtain ⟨n87, l87, h⟩ := v_il h (by decide +kernel : pins 172 345 = some (3, 347, 6, 0, [])) (v := c) rfl
              obtain ⟨n88, w347, l88, e347, h⟩ := u_mul h (by decide +kernel : pins 172 347 = some (10, 348, 2, 0, []))
              obtain ⟨n89, r348, s348, l89, h348, h⟩ := pinv_call h (by decide +kernel : pins 172 348 = some (36, 351, 170, 0, [3]))
              have h348 : prun n89 170 0 (lv_args 0 [.ref t, .ref (A 62), .int w347]) [] s328 = some (r348, s348) := h348
              have b258 : 0 ≤ c.toInt ∧ c.toInt < 16 := b258
              have y258 : PS (vw t A s255) (vw t A s258) := by rw [u258]; exact PS.upr (Or.inl (by decide)) (by decide)
              have y270 : PS (vw t A s267) (vw t A s270) := by rw [u270]; exact PS.upr (Or.inl (by decide)) (by decide)
              have y282 : PS (vw t A s279) (vw t A s282) := by rw [u282]; exact PS.upr (Or.inl (by decide)) (by decide)
              have y328 : PS (vw t A s282) (vw t A s328) := by rw [u328]; exact PS.bad e327
              have Pw : PS (vw t A σ) (vw t A s328) := (((((ps255.tr y258).tr ps267).tr y270).tr ps279).tr y282).tr y328
              have q347 : w347.toInt = 16 * c.toInt := by rw [e347, n_mul (by rw [i343]; omega) (by rw [i343]; omega), i343]
              obtain ⟨er348, S348, f348, z348, g348, J348⟩ := takeWord_ S328.1 h348 (by decide) (⟨by omega, by omega⟩) ((hB.of Pw).2) (Pw.2.2 J)
              have er348 : r348 = none := er348
              subst er348
              try dsimp only at S348
              try dsimp only at f348
              try dsimp only at z348
              try dsimp only at g348
              try dsimp only at J348
              have ps348 : PS (vw t A s328) (vw t A s348) := tw_ps (k := 62) (by decide) f348 g348 J348
              have g348w := g348
              have h : prun n89 172 351 [(6, .int c), (2, .int kd), (3, .int nn), (4, .int a), (5, .int fr), (0, .ref t), (1, .int hh)] [] s348 = some x := h
              obtain ⟨n90, l90, h⟩ := v_al h (by decide +kernel : pins 172 351 = some (5, 352, 0, 0, [])) (v := t) rfl
              obtain ⟨n91, w352, l91, e352, h⟩ := w_fi (k := 60) S348.1 h (by decide +kernel : pins 172 352 = some (22, 355, 13, 60, [])) (by decide)
              obtain ⟨n92, l92, ⟨c355, h⟩ | ⟨c355, h⟩⟩ := u_if0 h (by decide +kernel : pins 172 355 = some (16, 358, 0, ((371 : Nat) : Int), []))
              · obtain ⟨n93, w371, l93, e371, h⟩ := u_inc h (by decide +kernel : pins 172 371 = some (9, 374, 6, 1, [])) (v := c) rfl
                have h : prun n93 172 374 [(6, .int w371), (2, .int kd), (3, .int nn), (4, .int a), (5, .int fr), (0, .ref t), (1, .int hh)] [] s348 = some x := h
                obtain ⟨n94, l94, h⟩ := u_go h (by decide +kernel : pins 172 374 = some (20, 377, 0, ((234 : Nat) : Int), []))
                have h := prun_lv h (lv' := [(6, .int w371), (2, .int kd), (3, .int nn), (4, .int a), (5, .int fr), (0, .ref t), (1, .int hh)]) (lvLe.cons (lvLe.cons (lvLe.cons (lvLe.cons (lvLe.cons (lvLe.cons (lvLe.cons lvLe.nil rfl) rfl) rfl) rfl) rfl) rfl) rfl) (by decide : ([6, 2, 3, 4, 5, 0, 1] : List Nat).Nodup) (by decide : ([6, 2, 3, 4, 5, 0, 1] : List Nat).Nodup)
                have b258 : 0 ≤ c.toInt ∧ c.toInt < 16 := b258
                have q371 : w371.toInt = c.toInt + 1 := addc e371 (by decide : (Int32.ofInt 1).toInt = 1) (by omega) (by omega) (by decide) (by decide)
                have x258 : PS (vw t A s255) (vw t A s258) := by rw [u258]; exact PS.upr (Or.inl (by decide)) (by decide)
                have x270 : PS (vw t A s267) (vw t A s270) := by rw [u270]; exact PS.upr (Or.inl (by decide)) (by decide)
                have x282 : PS (vw t A s279) (vw t A s282) := by rw [u282]; exact PS.upr (Or.inl (by decide)) (by decide)
                have x328 : PS (vw t A s282) (vw t A s328) := by rw [u328]; exact PS.bad e327
                have PP : PS (vw t A σ) (vw t A s348) := (((((((ps255.tr x258).tr ps267).tr x270).tr ps279).tr x282).tr x328).tr ps348)
                have RGn : RG (vw t A s348) w371.toInt nn.toInt := by
                  intro g
                  exfalso
                  exact absurd (by rw [u328, gI_sc (by decide), e327]; rfl : gI (vw t A s328) 60 0 = 0) (ps348.2.1 g)
                obtain ⟨m, c2, σ2, y1, y2, y4, y3⟩ := ih n94 (by omega) _ _ x S348.1 ⟨by omega, hB.of PP, PP.2.2 J, RGn⟩ h
                exact ⟨m, c2, σ2, (((((((S255.tr S258).tr S267).tr S270).tr S279).tr S282).tr S328).tr S348).tr y1, PP.tr y2, y4, y3⟩
              · obtain ⟨n95, l95, h⟩ := v_al h (by decide +kernel : pins 172 358 = some (5, 359, 0, 0, [])) (v := t) rfl
                obtain ⟨n96, l96, h⟩ := v_il h (by decide +kernel : pins 172 359 = some (3, 361, 6, 0, [])) (v := c) rfl
                obtain ⟨n97, l97, h⟩ := v_al h (by decide +kernel : pins 172 361 = some (5, 362, 0, 0, [])) (v := t) rfl
                obtain ⟨n98, l98, h⟩ := w_row (k := 64) S348.1 h (by decide +kernel : pins 172 362 = some (22, 365, 13, 64, [])) (by decide)
                obtain ⟨n99, l99, h⟩ := v_il h (by decide +kernel : pins 172 365 = some (3, 367, 6, 0, [])) (v := c) rfl
                obtain ⟨n100, w367, l100, b367, e367, h⟩ := w_iald S348.1 h (by decide +kernel : pins 172 367 = some (24, 368, 0, 0, [])) (by decide)
                obtain ⟨n101, r368, s368, l101, h368, h⟩ := pinv_call h (by decide +kernel : pins 172 368 = some (36, 371, 171, 0, [3]))
                have h368 : prun n101 171 0 (lv_args 0 [.ref t, .int c, .int w367]) [] s348 = some (r368, s368) := h368
                have b258 : 0 ≤ c.toInt ∧ c.toInt < 16 := b258
                have P3 : PS (vw t A σ) (vw t A s348) := Pw.tr ps348
                obtain ⟨er368, S368, p368, k368⟩ := pc_takeTold S348.1 h368 (hB.of P3) (P3.2.2 J) (⟨by omega, by omega⟩)
                have er368 : r368 = none := er368
                subst er368
                try dsimp only at S368
                try dsimp only at p368
                try dsimp only at k368
                have h : prun n101 172 371 [(6, .int c), (2, .int kd), (3, .int nn), (4, .int a), (5, .int fr), (0, .ref t), (1, .int hh)] [] s368 = some x := h
                obtain ⟨n102, w371, l102, e371, h⟩ := u_inc h (by decide +kernel : pins 172 371 = some (9, 374, 6, 1, [])) (v := c) rfl
                have h : prun n102 172 374 [(6, .int w371), (2, .int kd), (3, .int nn), (4, .int a), (5, .int fr), (0, .ref t), (1, .int hh)] [] s368 = some x := h
                obtain ⟨n103, l103, h⟩ := u_go h (by decide +kernel : pins 172 374 = some (20, 377, 0, ((234 : Nat) : Int), []))
                have h := prun_lv h (lv' := [(6, .int w371), (2, .int kd), (3, .int nn), (4, .int a), (5, .int fr), (0, .ref t), (1, .int hh)]) (lvLe.cons (lvLe.cons (lvLe.cons (lvLe.cons (lvLe.cons (lvLe.cons (lvLe.cons lvLe.nil rfl) rfl) rfl) rfl) rfl) rfl) rfl) (by decide : ([6, 2, 3, 4, 5, 0, 1] : List Nat).Nodup) (by decide : ([6, 2, 3, 4, 5, 0, 1] : List Nat).Nodup)
                have b258 : 0 ≤ c.toInt ∧ c.toInt < 16 := b258
                have q371 : w371.toInt = c.toInt + 1 := addc e371 (by decide : (Int32.ofInt 1).toInt = 1) (by omega) (by omega) (by decide) (by decide)
                have x258 : PS (vw t A s255) (vw t A s258) := by rw [u258]; exact PS.upr (Or.inl (by decide)) (by decide)
                have x270 : PS (vw t A s267) (vw t A s270) := by rw [u270]; exact PS.upr (Or.inl (by decide)) (by decide)
                have x282 : PS (vw t A s279) (vw t A s282) := by rw [u282]; exact PS.upr (Or.inl (by decide)) (by decide)
                have x328 : PS (vw t A s282) (vw t A s328) := by rw [u328]; exact PS.bad e327
                have PP : PS (vw t A σ) (vw t A s368) := ((((((((ps255.tr x258).tr ps267).tr x270).tr ps279).tr x282).tr x328).tr ps348).tr p368)
                have RGn : RG (vw t A s368) w371.toInt nn.toInt := by
                  intro g
                  exfalso
                  exact absurd (by rw [u328, gI_sc (by decide), e327]; rfl : gI (vw t A s328) 60 0 = 0) (ps348.2.1 (p368.2.1 g))
                obtain ⟨m, c2, σ2, y1, y2, y4, y3⟩ := ih n103 (by omega) _ _ x S368.1 ⟨by omega, hB.of PP, PP.2.2 J, RGn⟩ h
                exact ⟨m, c2, σ2, ((((((((S255.tr S258).tr S267).tr S270).tr S279).tr S282).tr S328).tr S348).tr S368).tr y1, PP.tr y2, y4, y3⟩
          · obtain ⟨n104, l104, h⟩ := v_al h (by decide +kernel : pins 172 305 = some (5, 306, 0, 0, [])) (v := t) rfl
            obtain ⟨n105, l105, h⟩ := w_row (k := 65) S282.1 h (by decide +kernel : pins 172 306 = some (22, 309, 13, 65, [])) (by decide)
            obtain ⟨n106, l106, h⟩ := v_il h (by decide +kernel : pins 172 309 = some (3, 311, 6, 0, [])) (v := c) rfl
            obtain ⟨n107, w311, l107, b311, e311, h⟩ := w_iald S282.1 h (by decide +kernel : pins 172 311 = some (24, 312, 0, 0, [])) (by decide)
            obtain ⟨n108, w312, l108, ⟨e312, i312⟩, h⟩ := u_ic h (by decide +kernel : pins 172 312 = some (0, 313, 1, 0, [])) (by decide)
            obtain ⟨n109, l109, ⟨c313, h⟩ | ⟨c313, h⟩⟩ := u_ic4 h (by decide +kernel : pins 172 313 = some (17, 316, 4, ((326 : Nat) : Int), []))
            · obtain ⟨n110, l110, h⟩ := v_al h (by decide +kernel : pins 172 326 = some (5, 327, 0, 0, [])) (v := t) rfl
              obtain ⟨n111, w327, l111, ⟨e327, i327⟩, h⟩ := u_ic h (by decide +kernel : pins 172 327 = some (0, 328, 0, 0, [])) (by decide)
              obtain ⟨n112, s328, l112, S328, u328, h⟩ := w_put (k := 60) S282.1 h (by decide +kernel : pins 172 328 = some (23, 331, 13, 60, [])) (by decide)
              obtain ⟨n113, l113, h⟩ := v_al h (by decide +kernel : pins 172 331 = some (5, 332, 0, 0, [])) (v := t) rfl
              obtain ⟨n114, w332, l114, e332, h⟩ := w_fi (k := 60) S328.1 h (by decide +kernel : pins 172 332 = some (22, 335, 13, 60, [])) (by decide)
              obtain ⟨n115, l115, ⟨c335, h⟩ | ⟨c335, h⟩⟩ := u_if0 h (by decide +kernel : pins 172 335 = some (16, 338, 0, ((351 : Nat) : Int), []))
              · obtain ⟨n116, l116, h⟩ := v_al h (by decide +kernel : pins 172 351 = some (5, 352, 0, 0, [])) (v := t) rfl
                obtain ⟨n117, w352, l117, e352, h⟩ := w_fi (k := 60) S328.1 h (by decide +kernel : pins 172 352 = some (22, 355, 13, 60, [])) (by decide)
                obtain ⟨n118, l118, ⟨c355, h⟩ | ⟨c355, h⟩⟩ := u_if0 h (by decide +kernel : pins 172 355 = some (16, 358, 0, ((371 : Nat) : Int), []))
                · obtain ⟨n119, w371, l119, e371, h⟩ := u_inc h (by decide +kernel : pins 172 371 = some (9, 374, 6, 1, [])) (v := c) rfl
                  have h : prun n119 172 374 [(6, .int w371), (2, .int kd), (3, .int nn), (4, .int a), (5, .int fr), (0, .ref t), (1, .int hh)] [] s328 = some x := h
                  obtain ⟨n120, l120, h⟩ := u_go h (by decide +kernel : pins 172 374 = some (20, 377, 0, ((234 : Nat) : Int), []))
                  have h := prun_lv h (lv' := [(6, .int w371), (2, .int kd), (3, .int nn), (4, .int a), (5, .int fr), (0, .ref t), (1, .int hh)]) (lvLe.cons (lvLe.cons (lvLe.cons (lvLe.cons (lvLe.cons (lvLe.cons (lvLe.cons lvLe.nil rfl) rfl) rfl) rfl) rfl) rfl) rfl) (by decide : ([6, 2, 3, 4, 5, 0, 1] : List Nat).Nodup) (by decide : ([6, 2, 3, 4, 5, 0, 1] : List Nat).Nodup)
                  have b258 : 0 ≤ c.toInt ∧ c.toInt < 16 := b258
                  have q371 : w371.toInt = c.toInt + 1 := addc e371 (by decide : (Int32.ofInt 1).toInt = 1) (by omega) (by omega) (by decide) (by decide)
                  have x258 : PS (vw t A s255) (vw t A s258) := by rw [u258]; exact PS.upr (Or.inl (by decide)) (by decide)
                  have x270 : PS (vw t A s267) (vw t A s270) := by rw [u270]; exact PS.upr (Or.inl (by decide)) (by decide)
                  have x282 : PS (vw t A s279) (vw t A s282) := by rw [u282]; exact PS.upr (Or.inl (by decide)) (by decide)
                  have x328 : PS (vw t A s282) (vw t A s328) := by rw [u328]; exact PS.bad e327
                  have PP : PS (vw t A σ) (vw t A s328) := ((((((ps255.tr x258).tr ps267).tr x270).tr ps279).tr x282).tr x328)
                  have RGn : RG (vw t A s328) w371.toInt nn.toInt := by
                    intro g
                    exfalso
                    exact absurd (by rw [u328, gI_sc (by decide), e327]; rfl : gI (vw t A s328) 60 0 = 0) g
                  obtain ⟨m, c2, σ2, y1, y2, y4, y3⟩ := ih n120 (by omega) _ _ x S328.1 ⟨by omega, hB.of PP, PP.2.2 J, RGn⟩ h
                  exact ⟨m, c2, σ2, ((((((S255.tr S258).tr S267).tr S270).tr S279).tr S282).tr S328).tr y1, PP.tr y2, y4, y3⟩
                · exact absurd (by rw [e352, ← e332]; exact c335) c355
              · obtain ⟨n121, l121, h⟩ := v_al h (by decide +kernel : pins 172 338 = some (5, 339, 0, 0, [])) (v := t) rfl
                obtain ⟨n122, l122, h⟩ := v_al h (by decide +kernel : pins 172 339 = some (5, 340, 0, 0, [])) (v := t) rfl
                obtain ⟨n123, l123, h⟩ := w_row (k := 62) S328.1 h (by decide +kernel : pins 172 340 = some (22, 343, 13, 62, [])) (by decide)
                obtain ⟨n124, w343, l124, ⟨e343, i343⟩, h⟩ := u_ic h (by decide +kernel : pins 172 343 = some (0, 345, 16, 0, [])) (by decide)
                obtain ⟨n125, l125, h⟩ := v_il h (by decide +kernel : pins 172 345 = some (3, 347, 6, 0, [])) (v := c) rfl
                obtain ⟨n126, w347, l126, e347, h⟩ := u_mul h (by decide +kernel : pins 172 347 = some (10, 348, 2, 0, []))
                obtain ⟨n127, r348, s348, l127, h348, h⟩ := pinv_call h (by decide +kernel : pins 172 348 = some (36, 351, 170, 0, [3]))
                have h348 : prun n127 170 0 (lv_args 0 [.ref t, .ref (A 62), .int w347]) [] s328 = some (r348, s348) := h348
                have b258 : 0 ≤ c.toInt ∧ c.toInt < 16 := b258
                have y258 : PS (vw t A s255) (vw t A s258) := by rw [u258]; exact PS.upr (Or.inl (by decide)) (by decide)
                have y270 : PS (vw t A s267) (vw t A s270) := by rw [u270]; exact PS.upr (Or.inl (by decide)) (by decide)
                have y282 : PS (vw t A s279) (vw t A s282) := by rw [u282]; exact PS.upr (Or.inl (by decide)) (by decide)
                have y328 : PS (vw t A s282) (vw t A s328) := by rw [u328]; exact PS.bad e327
                have Pw : PS (vw t A σ) (vw t A s328) := (((((ps255.tr y258).tr ps267).tr y270).tr ps279).tr y282).tr y328
                have q347 : w347.toInt = 16 * c.toInt := by rw [e347, n_mul (by rw [i343]; omega) (by rw [i343]; omega), i343]
                obtain ⟨er348, S348, f348, z348, g348, J348⟩ := takeWord_ S328.1 h348 (by decide) (⟨by omega, by omega⟩) ((hB.of Pw).2) (Pw.2.2 J)
                have er348 : r348 = none := er348
                subst er348
                try dsimp only at S348
                try dsimp only at f348
                try dsimp only at z348
                try dsimp only at g348
                try dsimp only at J348
                have ps348 : PS (vw t A s328) (vw t A s348) := tw_ps (k := 62) (by decide) f348 g348 J348
                have g348w := g348
                have h : prun n127 172 351 [(6, .int c), (2, .int kd), (3, .int nn), (4, .int a), (5, .int fr), (0, .ref t), (1, .int hh)] [] s348 = some x := h
                obtain ⟨n128, l128, h⟩ := v_al h (by decide +kernel : pins 172 351 = some (5, 352, 0, 0, [])) (v := t) rfl
                obtain ⟨n129, w352, l129, e352, h⟩ := w_fi (k := 60) S348.1 h (by decide +kernel : pins 172 352 = some (22, 355, 13, 60, [])) (by decide)
                obtain ⟨n130, l130, ⟨c355, h⟩ | ⟨c355, h⟩⟩ := u_if0 h (by decide +kernel : pins 172 355 = some (16, 358, 0, ((371 : Nat) : Int), []))
                · obtain ⟨n131, w371, l131, e371, h⟩ := u_inc h (by decide +kernel : pins 172 371 = some (9, 374, 6, 1, [])) (v := c) rfl
                  have h : prun n131 172 374 [(6, .int w371), (2, .int kd), (3, .int nn), (4, .int a), (5, .int fr), (0, .ref t), (1, .int hh)] [] s348 = some x := h
                  obtain ⟨n132, l132, h⟩ := u_go h (by decide +kernel : pins 172 374 = some (20, 377, 0, ((234 : Nat) : Int), []))
                  have h := prun_lv h (lv' := [(6, .int w371), (2, .int kd), (3, .int nn), (4, .int a), (5, .int fr), (0, .ref t), (1, .int hh)]) (lvLe.cons (lvLe.cons (lvLe.cons (lvLe.cons (lvLe.cons (lvLe.cons (lvLe.cons lvLe.nil rfl) rfl) rfl) rfl) rfl) rfl) rfl) (by decide : ([6, 2, 3, 4, 5, 0, 1] : List Nat).Nodup) (by decide : ([6, 2, 3, 4, 5, 0, 1] : List Nat).Nodup)
                  have b258 : 0 ≤ c.toInt ∧ c.toInt < 16 := b258
                  have q371 : w371.toInt = c.toInt + 1 := addc e371 (by decide : (Int32.ofInt 1).toInt = 1) (by omega) (by omega) (by decide) (by decide)
                  have x258 : PS (vw t A s255) (vw t A s258) := by rw [u258]; exact PS.upr (Or.inl (by decide)) (by decide)
                  have x270 : PS (vw t A s267) (vw t A s270) := by rw [u270]; exact PS.upr (Or.inl (by decide)) (by decide)
                  have x282 : PS (vw t A s279) (vw t A s282) := by rw [u282]; exact PS.upr (Or.inl (by decide)) (by decide)
                  have x328 : PS (vw t A s282) (vw t A s328) := by rw [u328]; exact PS.bad e327
                  have PP : PS (vw t A σ) (vw t A s348) := (((((((ps255.tr x258).tr ps267).tr x270).tr ps279).tr x282).tr x328).tr ps348)
                  have RGn : RG (vw t A s348) w371.toInt nn.toInt := by
                    intro g
                    exfalso
                    exact absurd (by rw [u328, gI_sc (by decide), e327]; rfl : gI (vw t A s328) 60 0 = 0) (ps348.2.1 g)
                  obtain ⟨m, c2, σ2, y1, y2, y4, y3⟩ := ih n132 (by omega) _ _ x S348.1 ⟨by omega, hB.of PP, PP.2.2 J, RGn⟩ h
                  exact ⟨m, c2, σ2, (((((((S255.tr S258).tr S267).tr S270).tr S279).tr S282).tr S328).tr S348).tr y1, PP.tr y2, y4, y3⟩
                · obtain ⟨n133, l133, h⟩ := v_al h (by decide +kernel : pins 172 358 = some (5, 359, 0, 0, [])) (v := t) rfl
                  obtain ⟨n134, l134, h⟩ := v_il h (by decide +kernel : pins 172 359 = some (3, 361, 6, 0, [])) (v := c) rfl
                  obtain ⟨n135, l135, h⟩ := v_al h (by decide +kernel : pins 172 361 = some (5, 362, 0, 0, [])) (v := t) rfl
                  obtain ⟨n136, l136, h⟩ := w_row (k := 64) S348.1 h (by decide +kernel : pins 172 362 = some (22, 365, 13, 64, [])) (by decide)
                  obtain ⟨n137, l137, h⟩ := v_il h (by decide +kernel : pins 172 365 = some (3, 367, 6, 0, [])) (v := c) rfl
                  obtain ⟨n138, w367, l138, b367, e367, h⟩ := w_iald S348.1 h (by decide +kernel : pins 172 367 = some (24, 368, 0, 0, [])) (by decide)
                  obtain ⟨n139, r368, s368, l139, h368, h⟩ := pinv_call h (by decide +kernel : pins 172 368 = some (36, 371, 171, 0, [3]))
                  have h368 : prun n139 171 0 (lv_args 0 [.ref t, .int c, .int w367]) [] s348 = some (r368, s368) := h368
                  have b258 : 0 ≤ c.toInt ∧ c.toInt < 16 := b258
                  have P3 : PS (vw t A σ) (vw t A s348) := Pw.tr ps348
                  obtain ⟨er368, S368, p368, k368⟩ := pc_takeTold S348.1 h368 (hB.of P3) (P3.2.2 J) (⟨by omega, by omega⟩)
                  have er368 : r368 = none := er368
                  subst er368
                  try dsimp only at S368
                  try dsimp only at p368
                  try dsimp only at k368
                  have h : prun n139 172 371 [(6, .int c), (2, .int kd), (3, .int nn), (4, .int a), (5, .int fr), (0, .ref t), (1, .int hh)] [] s368 = some x := h
                  obtain ⟨n140, w371, l140, e371, h⟩ := u_inc h (by decide +kernel : pins 172 371 = some (9, 374, 6, 1, [])) (v := c) rfl
                  have h : prun n140 172 374 [(6, .int w371), (2, .int kd), (3, .int nn), (4, .int a), (5, .int fr), (0, .ref t), (1, .int hh)] [] s368 = some x := h
                  obtain ⟨n141, l141, h⟩ := u_go h (by decide +kernel : pins 172 374 = some (20, 377, 0, ((234 : Nat) : Int), []))
                  have h := prun_lv h (lv' := [(6, .int w371), (2, .int kd), (3, .int nn), (4, .int a), (5, .int fr), (0, .ref t), (1, .int hh)]) (lvLe.cons (lvLe.cons (lvLe.cons (lvLe.cons (lvLe.cons (lvLe.cons (lvLe.cons lvLe.nil rfl) rfl) rfl) rfl) rfl) rfl) rfl) (by decide : ([6, 2, 3, 4, 5, 0, 1] : List Nat).Nodup) (by decide : ([6, 2, 3, 4, 5, 0, 1] : List Nat).Nodup)
                  have b258 : 0 ≤ c.toInt ∧ c.toInt < 16 := b258
                  have q371 : w371.toInt = c.toInt + 1 := addc e371 (by decide : (Int32.ofInt 1).toInt = 1) (by omega) (by omega) (by decide) (by decide)
                  have x258 : PS (vw t A s255) (vw t A s258) := by rw [u258]; exact PS.upr (Or.inl (by decide)) (by decide)
                  have x270 : PS (vw t A s267) (vw t A s270) := by rw [u270]; exact PS.upr (Or.inl (by decide)) (by decide)
                  have x282 : PS (vw t A s279) (vw t A s282) := by rw [u282]; exact PS.upr (Or.inl (by decide)) (by decide)
                  have x328 : PS (vw t A s282) (vw t A s328) := by rw [u328]; exact PS.bad e327
                  have PP : PS (vw t A σ) (vw t A s368) := ((((((((ps255.tr x258).tr ps267).tr x270).tr ps279).tr x282).tr x328).tr ps348).tr p368)
                  have RGn : RG (vw t A s368) w371.toInt nn.toInt := by
                    intro g
                    exfalso
                    exact absurd (by rw [u328, gI_sc (by decide), e327]; rfl : gI (vw t A s328) 60 0 = 0) (ps348.2.1 (p368.2.1 g))
                  obtain ⟨m, c2, σ2, y1, y2, y4, y3⟩ := ih n141 (by omega) _ _ x S368.1 ⟨by omega, hB.of PP, PP.2.2 J, RGn⟩ h
                  exact ⟨m, c2, σ2, ((((((((S255.tr S258).tr S267).tr S270).tr S279).tr S282).tr S328).tr S348).tr S368).tr y1, PP.tr y2, y4, y3⟩
            · obtain ⟨n142, l142, h⟩ := v_al h (by decide +kernel : pins 172 316 = some (5, 317, 0, 0, [])) (v := t) rfl
              obtain ⟨n143, l143, h⟩ := w_row (k := 66) S282.1 h (by decide +kernel : pins 172 317 = some (22, 320, 13, 66, [])) (by decide)
              obtain ⟨n144, l144, h⟩ := v_il h (by decide +kernel : pins 172 320 = some (3, 322, 6, 0, [])) (v := c) rfl
              obtain ⟨n145, w322, l145, b322, e322, h⟩ := w_iald S282.1 h (by decide +kernel : pins 172 322 = some (24, 323, 0, 0, [])) (by decide)
              obtain ⟨n146, l146, ⟨c323, h⟩ | ⟨c323, h⟩⟩ := u_if3 h (by decide +kernel : pins 172 323 = some (16, 326, 3, ((331 : Nat) : Int), []))
              · obtain ⟨n147, l147, h⟩ := v_al h (by decide +kernel : pins 172 331 = some (5, 332, 0, 0, [])) (v := t) rfl
                obtain ⟨n148, w332, l148, e332, h⟩ := w_fi (k := 60) S282.1 h (by decide +kernel : pins 172 332 = some (22, 335, 13, 60, [])) (by decide)
                obtain ⟨n149, l149, ⟨c335, h⟩ | ⟨c335, h⟩⟩ := u_if0 h (by decide +kernel : pins 172 335 = some (16, 338, 0, ((351 : Nat) : Int), []))
                · obtain ⟨n150, l150, h⟩ := v_al h (by decide +kernel : pins 172 351 = some (5, 352, 0, 0, [])) (v := t) rfl
                  obtain ⟨n151, w352, l151, e352, h⟩ := w_fi (k := 60) S282.1 h (by decide +kernel : pins 172 352 = some (22, 355, 13, 60, [])) (by decide)
                  obtain ⟨n152, l152, ⟨c355, h⟩ | ⟨c355, h⟩⟩ := u_if0 h (by decide +kernel : pins 172 355 = some (16, 358, 0, ((371 : Nat) : Int), []))
                  · obtain ⟨n153, w371, l153, e371, h⟩ := u_inc h (by decide +kernel : pins 172 371 = some (9, 374, 6, 1, [])) (v := c) rfl
                    have h : prun n153 172 374 [(6, .int w371), (2, .int kd), (3, .int nn), (4, .int a), (5, .int fr), (0, .ref t), (1, .int hh)] [] s282 = some x := h
                    obtain ⟨n154, l154, h⟩ := u_go h (by decide +kernel : pins 172 374 = some (20, 377, 0, ((234 : Nat) : Int), []))
                    have h := prun_lv h (lv' := [(6, .int w371), (2, .int kd), (3, .int nn), (4, .int a), (5, .int fr), (0, .ref t), (1, .int hh)]) (lvLe.cons (lvLe.cons (lvLe.cons (lvLe.cons (lvLe.cons (lvLe.cons (lvLe.cons lvLe.nil rfl) rfl) rfl) rfl) rfl) rfl) rfl) (by decide : ([6, 2, 3, 4, 5, 0, 1] : List Nat).Nodup) (by decide : ([6, 2, 3, 4, 5, 0, 1] : List Nat).Nodup)
                    have b258 : 0 ≤ c.toInt ∧ c.toInt < 16 := b258
                    have q371 : w371.toInt = c.toInt + 1 := addc e371 (by decide : (Int32.ofInt 1).toInt = 1) (by omega) (by omega) (by decide) (by decide)
                    have x258 : PS (vw t A s255) (vw t A s258) := by rw [u258]; exact PS.upr (Or.inl (by decide)) (by decide)
                    have x270 : PS (vw t A s267) (vw t A s270) := by rw [u270]; exact PS.upr (Or.inl (by decide)) (by decide)
                    have x282 : PS (vw t A s279) (vw t A s282) := by rw [u282]; exact PS.upr (Or.inl (by decide)) (by decide)
                    have PP : PS (vw t A σ) (vw t A s282) := (((((ps255.tr x258).tr ps267).tr x270).tr ps279).tr x282)
                    have RGn : RG (vw t A s282) w371.toInt nn.toInt := by
                      intro g
                      exfalso
                      exact absurd (Int32.toInt_inj.mp (by rw [← e332]; exact c335)) g
                    obtain ⟨m, c2, σ2, y1, y2, y4, y3⟩ := ih n154 (by omega) _ _ x S282.1 ⟨by omega, hB.of PP, PP.2.2 J, RGn⟩ h
                    exact ⟨m, c2, σ2, (((((S255.tr S258).tr S267).tr S270).tr S279).tr S282).tr y1, PP.tr y2, y4, y3⟩
                  · exact absurd (by rw [e352, ← e332]; exact c335) c355
                · obtain ⟨n155, l155, h⟩ := v_al h (by decide +kernel : pins 172 338 = some (5, 339, 0, 0, [])) (v := t) rfl
                  obtain ⟨n156, l156, h⟩ := v_al h (by decide +kernel : pins 172 339 = some (5, 340, 0, 0, [])) (v := t) rfl
                  obtain ⟨n157, l157, h⟩ := w_row (k := 62) S282.1 h (by decide +kernel : pins 172 340 = some (22, 343, 13, 62, [])) (by decide)
                  obtain ⟨n158, w343, l158, ⟨e343, i343⟩, h⟩ := u_ic h (by decide +kernel : pins 172 343 = some (0, 345, 16, 0, [])) (by decide)
                  obtain ⟨n159, l159, h⟩ := v_il h (by decide +kernel : pins 172 345 = some (3, 347, 6, 0, [])) (v := c) rfl
                  obtain ⟨n160, w347, l160, e347, h⟩ := u_mul h (by decide +kernel : pins 172 347 = some (10, 348, 2, 0, []))
                  obtain ⟨n161, r348, s348, l161, h348, h⟩ := pinv_call h (by decide +kernel : pins 172 348 = some (36, 351, 170, 0, [3]))
                  have h348 : prun n161 170 0 (lv_args 0 [.ref t, .ref (A 62), .int w347]) [] s282 = some (r348, s348) := h348
                  have b258 : 0 ≤ c.toInt ∧ c.toInt < 16 := b258
                  have y258 : PS (vw t A s255) (vw t A s258) := by rw [u258]; exact PS.upr (Or.inl (by decide)) (by decide)
                  have y270 : PS (vw t A s267) (vw t A s270) := by rw [u270]; exact PS.upr (Or.inl (by decide)) (by decide)
                  have y282 : PS (vw t A s279) (vw t A s282) := by rw [u282]; exact PS.upr (Or.inl (by decide)) (by decide)
                  have Pw : PS (vw t A σ) (vw t A s282) := ((((ps255.tr y258).tr ps267).tr y270).tr ps279).tr y282
                  have q347 : w347.toInt = 16 * c.toInt := by rw [e347, n_mul (by rw [i343]; omega) (by rw [i343]; omega), i343]
                  obtain ⟨er348, S348, f348, z348, g348, J348⟩ := takeWord_ S282.1 h348 (by decide) (⟨by omega, by omega⟩) ((hB.of Pw).2) (Pw.2.2 J)
                  have er348 : r348 = none := er348
                  subst er348
                  try dsimp only at S348
                  try dsimp only at f348
                  try dsimp only at z348
                  try dsimp only at g348
                  try dsimp only at J348
                  have ps348 : PS (vw t A s282) (vw t A s348) := tw_ps (k := 62) (by decide) f348 g348 J348
                  have g348w := g348
                  have h : prun n161 172 351 [(6, .int c), (2, .int kd), (3, .int nn), (4, .int a), (5, .int fr), (0, .ref t), (1, .int hh)] [] s348 = some x := h
                  obtain ⟨n162, l162, h⟩ := v_al h (by decide +kernel : pins 172 351 = some (5, 352, 0, 0, [])) (v := t) rfl
                  obtain ⟨n163, w352, l163, e352, h⟩ := w_fi (k := 60) S348.1 h (by decide +kernel : pins 172 352 = some (22, 355, 13, 60, [])) (by decide)
                  obtain ⟨n164, l164, ⟨c355, h⟩ | ⟨c355, h⟩⟩ := u_if0 h (by decide +kernel : pins 172 355 = some (16, 358, 0, ((371 : Nat) : Int), []))
                  · obtain ⟨n165, w371, l165, e371, h⟩ := u_inc h (by decide +kernel : pins 172 371 = some (9, 374, 6, 1, [])) (v := c) rfl
                    have h : prun n165 172 374 [(6, .int w371), (2, .int kd), (3, .int nn), (4, .int a), (5, .int fr), (0, .ref t), (1, .int hh)] [] s348 = some x := h
                    obtain ⟨n166, l166, h⟩ := u_go h (by decide +kernel : pins 172 374 = some (20, 377, 0, ((234 : Nat) : Int), []))
                    have h := prun_lv h (lv' := [(6, .int w371), (2, .int kd), (3, .int nn), (4, .int a), (5, .int fr), (0, .ref t), (1, .int hh)]) (lvLe.cons (lvLe.cons (lvLe.cons (lvLe.cons (lvLe.cons (lvLe.cons (lvLe.cons lvLe.nil rfl) rfl) rfl) rfl) rfl) rfl) rfl) (by decide : ([6, 2, 3, 4, 5, 0, 1] : List Nat).Nodup) (by decide : ([6, 2, 3, 4, 5, 0, 1] : List Nat).Nodup)
                    have b258 : 0 ≤ c.toInt ∧ c.toInt < 16 := b258
                    have q371 : w371.toInt = c.toInt + 1 := addc e371 (by decide : (Int32.ofInt 1).toInt = 1) (by omega) (by omega) (by decide) (by decide)
                    have x258 : PS (vw t A s255) (vw t A s258) := by rw [u258]; exact PS.upr (Or.inl (by decide)) (by decide)
                    have x270 : PS (vw t A s267) (vw t A s270) := by rw [u270]; exact PS.upr (Or.inl (by decide)) (by decide)
                    have x282 : PS (vw t A s279) (vw t A s282) := by rw [u282]; exact PS.upr (Or.inl (by decide)) (by decide)
                    have PP : PS (vw t A σ) (vw t A s348) := ((((((ps255.tr x258).tr ps267).tr x270).tr ps279).tr x282).tr ps348)
                    have RGn : RG (vw t A s348) w371.toInt nn.toInt := by
                      intro g
                      exfalso
                      exact absurd (Int32.toInt_inj.mp (by rw [← e352]; exact c355)) g
                    obtain ⟨m, c2, σ2, y1, y2, y4, y3⟩ := ih n166 (by omega) _ _ x S348.1 ⟨by omega, hB.of PP, PP.2.2 J, RGn⟩ h
                    exact ⟨m, c2, σ2, ((((((S255.tr S258).tr S267).tr S270).tr S279).tr S282).tr S348).tr y1, PP.tr y2, y4, y3⟩
                  · obtain ⟨n167, l167, h⟩ := v_al h (by decide +kernel : pins 172 358 = some (5, 359, 0, 0, [])) (v := t) rfl
                    obtain ⟨n168, l168, h⟩ := v_il h (by decide +kernel : pins 172 359 = some (3, 361, 6, 0, [])) (v := c) rfl
                    obtain ⟨n169, l169, h⟩ := v_al h (by decide +kernel : pins 172 361 = some (5, 362, 0, 0, [])) (v := t) rfl
                    obtain ⟨n170, l170, h⟩ := w_row (k := 64) S348.1 h (by decide +kernel : pins 172 362 = some (22, 365, 13, 64, [])) (by decide)
                    obtain ⟨n171, l171, h⟩ := v_il h (by decide +kernel : pins 172 365 = some (3, 367, 6, 0, [])) (v := c) rfl
                    obtain ⟨n172, w367, l172, b367, e367, h⟩ := w_iald S348.1 h (by decide +kernel : pins 172 367 = some (24, 368, 0, 0, [])) (by decide)
                    obtain ⟨n173, r368, s368, l173, h368, h⟩ := pinv_call h (by decide +kernel : pins 172 368 = some (36, 371, 171, 0, [3]))
                    have h368 : prun n173 171 0 (lv_args 0 [.ref t, .int c, .int w367]) [] s348 = some (r368, s368) := h368
                    have b258 : 0 ≤ c.toInt ∧ c.toInt < 16 := b258
                    have P3 : PS (vw t A σ) (vw t A s348) := Pw.tr ps348
                    obtain ⟨er368, S368, p368, k368⟩ := pc_takeTold S348.1 h368 (hB.of P3) (P3.2.2 J) (⟨by omega, by omega⟩)
                    have er368 : r368 = none := er368
                    subst er368
                    try dsimp only at S368
                    try dsimp only at p368
                    try dsimp only at k368
                    have h : prun n173 172 371 [(6, .int c), (2, .int kd), (3, .int nn), (4, .int a), (5, .int fr), (0, .ref t), (1, .int hh)] [] s368 = some x := h
                    obtain ⟨n174, w371, l174, e371, h⟩ := u_inc h (by decide +kernel : pins 172 371 = some (9, 374, 6, 1, [])) (v := c) rfl
                    have h : prun n174 172 374 [(6, .int w371), (2, .int kd), (3, .int nn), (4, .int a), (5, .int fr), (0, .ref t), (1, .int hh)] [] s368 = some x := h
                    obtain ⟨n175, l175, h⟩ := u_go h (by decide +kernel : pins 172 374 = some (20, 377, 0, ((234 : Nat) : Int), []))
                    have h := prun_lv h (lv' := [(6, .int w371), (2, .int kd), (3, .int nn), (4, .int a), (5, .int fr), (0, .ref t), (1, .int hh)]) (lvLe.cons (lvLe.cons (lvLe.cons (lvLe.cons (lvLe.cons (lvLe.cons (lvLe.cons lvLe.nil rfl) rfl) rfl) rfl) rfl) rfl) rfl) (by decide : ([6, 2, 3, 4, 5, 0, 1] : List Nat).Nodup) (by decide : ([6, 2, 3, 4, 5, 0, 1] : List Nat).Nodup)
                    have b258 : 0 ≤ c.toInt ∧ c.toInt < 16 := b258
                    have q371 : w371.toInt = c.toInt + 1 := addc e371 (by decide : (Int32.ofInt 1).toInt = 1) (by omega) (by omega) (by decide) (by decide)
                    have x258 : PS (vw t A s255) (vw t A s258) := by rw [u258]; exact PS.upr (Or.inl (by decide)) (by decide)
                    have x270 : PS (vw t A s267) (vw t A s270) := by rw [u270]; exact PS.upr (Or.inl (by decide)) (by decide)
                    have x282 : PS (vw t A s279) (vw t A s282) := by rw [u282]; exact PS.upr (Or.inl (by decide)) (by decide)
                    have PP : PS (vw t A σ) (vw t A s368) := (((((((ps255.tr x258).tr ps267).tr x270).tr ps279).tr x282).tr ps348).tr p368)
                    have RGn : RG (vw t A s368) w371.toInt nn.toInt := by
                      intro g
                      have g348 := p368.2.1 g
                      have g282 := ps348.2.1 g348
                      have g279 := x282.2.1 g282
                      have g270 := ps279.2.1 g279
                      have g267 := x270.2.1 g270
                      have g258 := ps267.2.1 g267
                      have g255 := x258.2.1 g258
                      have g0 := ps255.2.1 g255
                      obtain ⟨r1, r2, r3, r4⟩ := hG g0
                      have q347 : w347.toInt = 16 * c.toInt := by rw [e347, n_mul (by rw [i343]; omega) (by rw [i343]; omega), i343]
                      have cn : (c.toNatClampNeg : Int) = c.toInt := n_clamp hc
                      have n347 : w347.toNatClampNeg = 16 * c.toNatClampNeg := by rw [clampc q347 (by omega)]; omega
                      have wk := (g348w g348).2
                      refine ⟨r1, fun k hk => ?_, fun e => by omega, fun _ => ?_⟩
                      · by_cases ek : k = c.toNatClampNeg
                        · rw [ek]
                          refine Wok.of (fun q _ _ => (k368 q).1) ?_
                          rw [← n347]
                          exact wk
                        · have old : ∀ q, 16 * k ≤ q → q < 16 * k + 16 → vw t A s368 62 q = vw t A σ 62 q := by
                            intro q q1 q2
                            rw [(k368 q).1, z348 q (by omega), u282, up_ne (by decide), (kg279 q).1, u270, up_ne (by decide), (kg267 q).1, u258, up_ne (by decide), (kg255 q).1]
                          exact Wok.of old (r2 k (by omega))
                      · by_cases e0 : c.toInt = 0
                        · have c0 : c.toNatClampNeg = 0 := by omega
                          have a0 := r3 e0
                          rcases f255 with ⟨_, f⟩ | ⟨_, _, _, _, a1, h1, f⟩
                          · exact absurd (by rw [f, gI_sc (by decide)]) g255
                          rcases f267 with ⟨_, f'⟩ | ⟨_, _, _, _, a2, h2, f'⟩
                          · exact absurd (by rw [f', gI_sc (by decide)]) g267
                          rcases f279 with ⟨_, f''⟩ | ⟨_, _, hz, ⟨v, hv⟩, a3, h3, f''⟩
                          · exact absurd (by rw [f'', gI_sc (by decide)]) g279
                          have e258 : gI (vw t A s258) 59 0 = a1 := by rw [u258, gI_ne (by decide), f, gI_sc (by decide)]
                          have e270 : gI (vw t A s270) 59 0 = a2 := by rw [u270, gI_ne (by decide), f', gI_sc (by decide)]
                          rw [e258] at h2
                          rw [e270] at hv hz
                          have z58 : gI (vw t A s270) 58 0 = gI (vw t A s368) 58 0 := by unfold gI; rw [((((ps255.tr x258).tr ps267).tr x270)).1 58 0 (by decide), PP.1 58 0 (by decide)]
                          rw [z58] at hz
                          have e66 : gI (vw t A s368) 66 0 = w279 := by
                            unfold gI
                            rw [(k368 0).2.1, f348 66 0 (by decide) (by decide) (by decide) (by decide), u282, c0, up_eq]
                            rfl
                          have l322 : w322 = w279 := by rw [e322, u282, gI_eq]
                          refine ⟨⟨v, ?_⟩, by rw [e66, ← l322]; omega, by omega⟩
                          have e57 : ∀ q, gI (vw t A s368) 57 q = gI (vw t A σ) 57 q := fun q => by unfold gI; rw [PP.1 57 q (by decide)]
                          have e57' : ∀ q, gI (vw t A s270) 57 q = gI (vw t A σ) 57 q := fun q => by unfold gI; rw [((((ps255.tr x258).tr ps267).tr x270)).1 57 q (by decide)]
                          rw [e66, hv, e57, e57', show (a2.toInt + 3).toNat = 7 by omega]
                        · obtain ⟨⟨v, hv⟩, hp⟩ := r4 (by omega)
                          have e66 : gI (vw t A s368) 66 0 = gI (vw t A σ) 66 0 := by
                            unfold gI
                            rw [(k368 0).2.1, f348 66 0 (by decide) (by decide) (by decide) (by decide), u282, up_ni (by decide) (by omega), (kg279 0).2.1, u270, up_ne (by decide), (kg267 0).2.1, u258, up_ne (by decide), (kg255 0).2.1]
                          have e57 : gI (vw t A s368) 57 7 = gI (vw t A σ) 57 7 := by unfold gI; rw [PP.1 57 7 (by decide)]
                          have z58 : gI (vw t A s368) 58 0 = gI (vw t A σ) 58 0 := by unfold gI; rw [PP.1 58 0 (by decide)]
                          refine ⟨⟨v, ?_⟩, by rw [e66]; exact hp.1, by rw [z58]; exact hp.2⟩
                          rw [e66, e57]
                          exact hv
                    obtain ⟨m, c2, σ2, y1, y2, y4, y3⟩ := ih n175 (by omega) _ _ x S368.1 ⟨by omega, hB.of PP, PP.2.2 J, RGn⟩ h
                    exact ⟨m, c2, σ2, (((((((S255.tr S258).tr S267).tr S270).tr S279).tr S282).tr S348).tr S368).tr y1, PP.tr y2, y4, y3⟩
              · obtain ⟨n176, l176, h⟩ := v_al h (by decide +kernel : pins 172 326 = some (5, 327, 0, 0, [])) (v := t) rfl
                obtain ⟨n177, w327, l177, ⟨e327, i327⟩, h⟩ := u_ic h (by decide +kernel : pins 172 327 = some (0, 328, 0, 0, [])) (by decide)
                obtain ⟨n178, s328, l178, S328, u328, h⟩ := w_put (k := 60) S282.1 h (by decide +kernel : pins 172 328 = some (23, 331, 13, 60, [])) (by decide)
                obtain ⟨n179, l179, h⟩ := v_al h (by decide +kernel : pins 172 331 = some (5, 332, 0, 0, [])) (v := t) rfl
                obtain ⟨n180, w332, l180, e332, h⟩ := w_fi (k := 60) S328.1 h (by decide +kernel : pins 172 332 = some (22, 335, 13, 60, [])) (by decide)
                obtain ⟨n181, l181, ⟨c335, h⟩ | ⟨c335, h⟩⟩ := u_if0 h (by decide +kernel : pins 172 335 = some (16, 338, 0, ((351 : Nat) : Int), []))
                · obtain ⟨n182, l182, h⟩ := v_al h (by decide +kernel : pins 172 351 = some (5, 352, 0, 0, [])) (v := t) rfl
                  obtain ⟨n183, w352, l183, e352, h⟩ := w_fi (k := 60) S328.1 h (by decide +kernel : pins 172 352 = some (22, 355, 13, 60, [])) (by decide)
                  obtain ⟨n184, l184, ⟨c355, h⟩ | ⟨c355, h⟩⟩ := u_if0 h (by decide +kernel : pins 172 355 = some (16, 358, 0, ((371 : Nat) : Int), []))
                  · obtain ⟨n185, w371, l185, e371, h⟩ := u_inc h (by decide +kernel : pins 172 371 = some (9, 374, 6, 1, [])) (v := c) rfl
                    have h : prun n185 172 374 [(6, .int w371), (2, .int kd), (3, .int nn), (4, .int a), (5, .int fr), (0, .ref t), (1, .int hh)] [] s328 = some x := h
                    obtain ⟨n186, l186, h⟩ := u_go h (by decide +kernel : pins 172 374 = some (20, 377, 0, ((234 : Nat) : Int), []))
                    have h := prun_lv h (lv' := [(6, .int w371), (2, .int kd), (3, .int nn), (4, .int a), (5, .int fr), (0, .ref t), (1, .int hh)]) (lvLe.cons (lvLe.cons (lvLe.cons (lvLe.cons (lvLe.cons (lvLe.cons (lvLe.cons lvLe.nil rfl) rfl) rfl) rfl) rfl) rfl) rfl) (by decide : ([6, 2, 3, 4, 5, 0, 1] : List Nat).Nodup) (by decide : ([6, 2, 3, 4, 5, 0, 1] : List Nat).Nodup)
                    have b258 : 0 ≤ c.toInt ∧ c.toInt < 16 := b258
                    have q371 : w371.toInt = c.toInt + 1 := addc e371 (by decide : (Int32.ofInt 1).toInt = 1) (by omega) (by omega) (by decide) (by decide)
                    have x258 : PS (vw t A s255) (vw t A s258) := by rw [u258]; exact PS.upr (Or.inl (by decide)) (by decide)
                    have x270 : PS (vw t A s267) (vw t A s270) := by rw [u270]; exact PS.upr (Or.inl (by decide)) (by decide)
                    have x282 : PS (vw t A s279) (vw t A s282) := by rw [u282]; exact PS.upr (Or.inl (by decide)) (by decide)
                    have x328 : PS (vw t A s282) (vw t A s328) := by rw [u328]; exact PS.bad e327
                    have PP : PS (vw t A σ) (vw t A s328) := ((((((ps255.tr x258).tr ps267).tr x270).tr ps279).tr x282).tr x328)
                    have RGn : RG (vw t A s328) w371.toInt nn.toInt := by
                      intro g
                      exfalso
                      exact absurd (by rw [u328, gI_sc (by decide), e327]; rfl : gI (vw t A s328) 60 0 = 0) g
                    obtain ⟨m, c2, σ2, y1, y2, y4, y3⟩ := ih n186 (by omega) _ _ x S328.1 ⟨by omega, hB.of PP, PP.2.2 J, RGn⟩ h
                    exact ⟨m, c2, σ2, ((((((S255.tr S258).tr S267).tr S270).tr S279).tr S282).tr S328).tr y1, PP.tr y2, y4, y3⟩
                  · exact absurd (by rw [e352, ← e332]; exact c335) c355
                · obtain ⟨n187, l187, h⟩ := v_al h (by decide +kernel : pins 172 338 = some (5, 339, 0, 0, [])) (v := t) rfl
                  obtain ⟨n188, l188, h⟩ := v_al h (by decide +kernel : pins 172 339 = some (5, 340, 0, 0, [])) (v := t) rfl
                  obtain ⟨n189, l189, h⟩ := w_row (k := 62) S328.1 h (by decide +kernel : pins 172 340 = some (22, 343, 13, 62, [])) (by decide)
                  obtain ⟨n190, w343, l190, ⟨e343, i343⟩, h⟩ := u_ic h (by decide +kernel : pins 172 343 = some (0, 345, 16, 0, [])) (by decide)
                  obtain ⟨n191, l191, h⟩ := v_il h (by decide +kernel : pins 172 345 = some (3, 347, 6, 0, [])) (v := c) rfl
                  obtain ⟨n192, w347, l192, e347, h⟩ := u_mul h (by decide +kernel : pins 172 347 = some (10, 348, 2, 0, []))
                  obtain ⟨n193, r348, s348, l193, h348, h⟩ := pinv_call h (by decide +kernel : pins 172 348 = some (36, 351, 170, 0, [3]))
                  have h348 : prun n193 170 0 (lv_args 0 [.ref t, .ref (A 62), .int w347]) [] s328 = some (r348, s348) := h348
                  have b258 : 0 ≤ c.toInt ∧ c.toInt < 16 := b258
                  have y258 : PS (vw t A s255) (vw t A s258) := by rw [u258]; exact PS.upr (Or.inl (by decide)) (by decide)
                  have y270 : PS (vw t A s267) (vw t A s270) := by rw [u270]; exact PS.upr (Or.inl (by decide)) (by decide)
                  have y282 : PS (vw t A s279) (vw t A s282) := by rw [u282]; exact PS.upr (Or.inl (by decide)) (by decide)
                  have y328 : PS (vw t A s282) (vw t A s328) := by rw [u328]; exact PS.bad e327
                  have Pw : PS (vw t A σ) (vw t A s328) := (((((ps255.tr y258).tr ps267).tr y270).tr ps279).tr y282).tr y328
                  have q347 : w347.toInt = 16 * c.toInt := by rw [e347, n_mul (by rw [i343]; omega) (by rw [i343]; omega), i343]
                  obtain ⟨er348, S348, f348, z348, g348, J348⟩ := takeWord_ S328.1 h348 (by decide) (⟨by omega, by omega⟩) ((hB.of Pw).2) (Pw.2.2 J)
                  have er348 : r348 = none := er348
                  subst er348
                  try dsimp only at S348
                  try dsimp only at f348
                  try dsimp only at z348
                  try dsimp only at g348
                  try dsimp only at J348
                  have ps348 : PS (vw t A s328) (vw t A s348) := tw_ps (k := 62) (by decide) f348 g348 J348
                  have g348w := g348
                  have h : prun n193 172 351 [(6, .int c), (2, .int kd), (3, .int nn), (4, .int a), (5, .int fr), (0, .ref t), (1, .int hh)] [] s348 = some x := h
                  obtain ⟨n194, l194, h⟩ := v_al h (by decide +kernel : pins 172 351 = some (5, 352, 0, 0, [])) (v := t) rfl
                  obtain ⟨n195, w352, l195, e352, h⟩ := w_fi (k := 60) S348.1 h (by decide +kernel : pins 172 352 = some (22, 355, 13, 60, [])) (by decide)
                  obtain ⟨n196, l196, ⟨c355, h⟩ | ⟨c355, h⟩⟩ := u_if0 h (by decide +kernel : pins 172 355 = some (16, 358, 0, ((371 : Nat) : Int), []))
                  · obtain ⟨n197, w371, l197, e371, h⟩ := u_inc h (by decide +kernel : pins 172 371 = some (9, 374, 6, 1, [])) (v := c) rfl
                    have h : prun n197 172 374 [(6, .int w371), (2, .int kd), (3, .int nn), (4, .int a), (5, .int fr), (0, .ref t), (1, .int hh)] [] s348 = some x := h
                    obtain ⟨n198, l198, h⟩ := u_go h (by decide +kernel : pins 172 374 = some (20, 377, 0, ((234 : Nat) : Int), []))
                    have h := prun_lv h (lv' := [(6, .int w371), (2, .int kd), (3, .int nn), (4, .int a), (5, .int fr), (0, .ref t), (1, .int hh)]) (lvLe.cons (lvLe.cons (lvLe.cons (lvLe.cons (lvLe.cons (lvLe.cons (lvLe.cons lvLe.nil rfl) rfl) rfl) rfl) rfl) rfl) rfl) (by decide : ([6, 2, 3, 4, 5, 0, 1] : List Nat).Nodup) (by decide : ([6, 2, 3, 4, 5, 0, 1] : List Nat).Nodup)
                    have b258 : 0 ≤ c.toInt ∧ c.toInt < 16 := b258
                    have q371 : w371.toInt = c.toInt + 1 := addc e371 (by decide : (Int32.ofInt 1).toInt = 1) (by omega) (by omega) (by decide) (by decide)
                    have x258 : PS (vw t A s255) (vw t A s258) := by rw [u258]; exact PS.upr (Or.inl (by decide)) (by decide)
                    have x270 : PS (vw t A s267) (vw t A s270) := by rw [u270]; exact PS.upr (Or.inl (by decide)) (by decide)
                    have x282 : PS (vw t A s279) (vw t A s282) := by rw [u282]; exact PS.upr (Or.inl (by decide)) (by decide)
                    have x328 : PS (vw t A s282) (vw t A s328) := by rw [u328]; exact PS.bad e327
                    have PP : PS (vw t A σ) (vw t A s348) := (((((((ps255.tr x258).tr ps267).tr x270).tr ps279).tr x282).tr x328).tr ps348)
                    have RGn : RG (vw t A s348) w371.toInt nn.toInt := by
                      intro g
                      exfalso
                      exact absurd (by rw [u328, gI_sc (by decide), e327]; rfl : gI (vw t A s328) 60 0 = 0) (ps348.2.1 g)
                    obtain ⟨m, c2, σ2, y1, y2, y4, y3⟩ := ih n198 (by omega) _ _ x S348.1 ⟨by omega, hB.of PP, PP.2.2 J, RGn⟩ h
                    exact ⟨m, c2, σ2, (((((((S255.tr S258).tr S267).tr S270).tr S279).tr S282).tr S328).tr S348).tr y1, PP.tr y2, y4, y3⟩
                  · obtain ⟨n199, l199, h⟩ := v_al h (by decide +kernel : pins 172 358 = some (5, 359, 0, 0, [])) (v := t) rfl
                    obtain ⟨n200, l200, h⟩ := v_il h (by decide +kernel : pins 172 359 = some (3, 361, 6, 0, [])) (v := c) rfl
                    obtain ⟨n201, l201, h⟩ := v_al h (by decide +kernel : pins 172 361 = some (5, 362, 0, 0, [])) (v := t) rfl
                    obtain ⟨n202, l202, h⟩ := w_row (k := 64) S348.1 h (by decide +kernel : pins 172 362 = some (22, 365, 13, 64, [])) (by decide)
                    obtain ⟨n203, l203, h⟩ := v_il h (by decide +kernel : pins 172 365 = some (3, 367, 6, 0, [])) (v := c) rfl
                    obtain ⟨n204, w367, l204, b367, e367, h⟩ := w_iald S348.1 h (by decide +kernel : pins 172 367 = some (24, 368, 0, 0, [])) (by decide)
                    obtain ⟨n205, r368, s368, l205, h368, h⟩ := pinv_call h (by decide +kernel : pins 172 368 = some (36, 371, 171, 0, [3]))
                    have h368 : prun n205 171 0 (lv_args 0 [.ref t, .int c, .int w367]) [] s348 = some (r368, s368) := h368
                    have b258 : 0 ≤ c.toInt ∧ c.toInt < 16 := b258
                    have P3 : PS (vw t A σ) (vw t A s348) := Pw.tr ps348
                    obtain ⟨er368, S368, p368, k368⟩ := pc_takeTold S348.1 h368 (hB.of P3) (P3.2.2 J) (⟨by omega, by omega⟩)
                    have er368 : r368 = none := er368
                    subst er368
                    try dsimp only at S368
                    try dsimp only at p368
                    try dsimp only at k368
                    have h : prun n205 172 371 [(6, .int c), (2, .int kd), (3, .int nn), (4, .int a), (5, .int fr), (0, .ref t), (1, .int hh)] [] s368 = some x := h
                    obtain ⟨n206, w371, l206, e371, h⟩ := u_inc h (by decide +kernel : pins 172 371 = some (9, 374, 6, 1, [])) (v := c) rfl
                    have h : prun n206 172 374 [(6, .int w371), (2, .int kd), (3, .int nn), (4, .int a), (5, .int fr), (0, .ref t), (1, .int hh)] [] s368 = some x := h
                    obtain ⟨n207, l207, h⟩ := u_go h (by decide +kernel : pins 172 374 = some (20, 377, 0, ((234 : Nat) : Int), []))
                    have h := prun_lv h (lv' := [(6, .int w371), (2, .int kd), (3, .int nn), (4, .int a), (5, .int fr), (0, .ref t), (1, .int hh)]) (lvLe.cons (lvLe.cons (lvLe.cons (lvLe.cons (lvLe.cons (lvLe.cons (lvLe.cons lvLe.nil rfl) rfl) rfl) rfl) rfl) rfl) rfl) (by decide : ([6, 2, 3, 4, 5, 0, 1] : List Nat).Nodup) (by decide : ([6, 2, 3, 4, 5, 0, 1] : List Nat).Nodup)
                    have b258 : 0 ≤ c.toInt ∧ c.toInt < 16 := b258
                    have q371 : w371.toInt = c.toInt + 1 := addc e371 (by decide : (Int32.ofInt 1).toInt = 1) (by omega) (by omega) (by decide) (by decide)
                    have x258 : PS (vw t A s255) (vw t A s258) := by rw [u258]; exact PS.upr (Or.inl (by decide)) (by decide)
                    have x270 : PS (vw t A s267) (vw t A s270) := by rw [u270]; exact PS.upr (Or.inl (by decide)) (by decide)
                    have x282 : PS (vw t A s279) (vw t A s282) := by rw [u282]; exact PS.upr (Or.inl (by decide)) (by decide)
                    have x328 : PS (vw t A s282) (vw t A s328) := by rw [u328]; exact PS.bad e327
                    have PP : PS (vw t A σ) (vw t A s368) := ((((((((ps255.tr x258).tr ps267).tr x270).tr ps279).tr x282).tr x328).tr ps348).tr p368)
                    have RGn : RG (vw t A s368) w371.toInt nn.toInt := by
                      intro g
                      exfalso
                      exact absurd (by rw [u328, gI_sc (by decide), e327]; rfl : gI (vw t A s328) 60 0 = 0) (ps348.2.1 (p368.2.1 g))
                    obtain ⟨m, c2, σ2, y1, y2, y4, y3⟩ := ih n207 (by omega) _ _ x S368.1 ⟨by omega, hB.of PP, PP.2.2 J, RGn⟩ h
                    exact ⟨m, c2, σ2, ((((((((S255.tr S258).tr S267).tr S270).tr S279).tr S282).tr S328).tr S348).tr S368).tr y1, PP.tr y2, y4, y3⟩
