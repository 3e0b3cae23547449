/-- hosts left that may hear -/
def lft (h f : Int) (d : Nat) : Nat := if h ≤ f then d - 1 else d
theorem lft_ne {h f : Int} {d : Nat} (hd : h + ((d + 1 : Nat) : Int) = 8) (hf : f ≤ 7) (ne : ¬ h = f) : lft h f (d + 1) = lft (h + 1) f d + 1 := by unfold lft; split <;> split <;> omega
theorem lft_eq {h f : Int} {d : Nat} (e : h = f) : lft h f (d + 1) = lft (h + 1) f d := by unfold lft; split <;> split <;> omega
theorem lft_le {h f : Int} {d : Nat} (hd : h + ((d + 1 : Nat) : Int) = 8) (hf : f ≤ 7) : lft (h + 1) f d ≤ lft h f (d + 1) := by unfold lft; split <;> split <;> omega
set_option maxHeartbeats 2000000 in
theorem ms_hosts {t : Nat} {A : Nat → Nat} {P : Option Value → ps → Prop} {k m fr wh : Int32} {p : Nat} (hf : 0 ≤ fr.toInt ∧ fr.toInt ≤ 7) : ∀ (d : Nat) (h : Int32) (σ : ps) (Z : Nat → Prop), WT Z t A σ → 0 ≤ h.toInt → h.toInt + d = 8 → MsI (vw t A σ) → Pkt (vw t A σ) p → P2 (vw t A σ) + cs2 p * lft h.toInt fr.toInt d ≤ 799 → (∀ (h' : Int32) (σ' : ps) (Z' : Nat → Prop), WT Z' t A σ' → (∀ a, Z a → Z' a) → SP t A σ σ' → (∀ j q, kept2 j → vw t A σ' j q = vw t A σ j q) → MsI (vw t A σ') → P1 (vw t A σ') ≤ P1 (vw t A σ) + cst p * lft h.toInt fr.toInt d → P2 (vw t A σ') ≤ P2 (vw t A σ) + cs2 p * lft h.toInt fr.toInt d → wp 166 200 [(5, .int h'), (4, .int wh), (3, .int fr), (2, .int k), (1, .int m), (0, .ref t)] [] σ' P) → wp 166 104 [(5, .int h), (4, .int wh), (3, .int fr), (2, .int k), (1, .int m), (0, .ref t)] [] σ P := by
  intro d
  induction d with
  | zero =>
    intro h σ Z W h0 hd I pk hP cont
    refine x_il (by decide +kernel : pins 166 104 = some (3, 106, 5, 0, [])) (v := h) rfl ?_
    refine y_ic (by decide +kernel : pins 166 106 = some (0, 108, 8, 0, [])) (by decide) fun w106 e106 i106 => ?_
    refine y_ic3 (by decide +kernel : pins 166 108 = some (17, 111, 3, ((200 : Nat) : Int), [])) (fun c108 => ?_) (fun c108 => ?_)
    · have c0 : lft h.toInt fr.toInt 0 = 0 := by unfold lft; split <;> rfl
      exact cont _ _ _ W (fun _ h => h) (SP.rf W.W) (fun _ _ _ => rfl) I (by omega) (by omega)
    · exfalso; rw [i106] at c108; omega
  | succ d ih =>
    intro h σ Z W h0 hd I pk hP cont
    refine x_il (by decide +kernel : pins 166 104 = some (3, 106, 5, 0, [])) (v := h) rfl ?_
    refine y_ic (by decide +kernel : pins 166 106 = some (0, 108, 8, 0, [])) (by decide) fun w106 e106 i106 => ?_
    refine y_ic3 (by decide +kernel : pins 166 108 = some (17, 111, 3, ((200 : Nat) : Int), [])) (fun c108 => ?_) (fun c108 => ?_)
    · exfalso; rw [i106] at c108; omega
    · refine x_il (by decide +kernel : pins 166 111 = some (3, 113, 5, 0, [])) (v := h) rfl ?_
      refine x_il (by decide +kernel : pins 166 113 = some (3, 114, 3, 0, [])) (v := fr) rfl ?_
      refine y_ic0 (by decide +kernel : pins 166 114 = some (17, 117, 0, ((194 : Nat) : Int), [])) (fun c114 => ?_) (fun c114 => ?_)
      · refine y_inc (by decide +kernel : pins 166 194 = some (9, 197, 5, 1, [])) (v := h) rfl fun w194 e194 => ?_
        show wp 166 197 [(5, .int w194), (4, .int wh), (3, .int fr), (2, .int k), (1, .int m), (0, .ref t)] [] σ _
        refine x_go (by decide +kernel : pins 166 197 = some (20, 200, 0, ((104 : Nat) : Int), [])) ?_
        have q194 : w194.toInt = h.toInt + 1 := addc e194 (by decide : (Int32.ofInt 1).toInt = 1) (by omega) (by omega) (by decide) (by decide)
        have hl := lft_le hd hf.2
        rw [← q194] at hl
        have m1 := Nat.mul_le_mul_left (cst p) hl
        have m2 := Nat.mul_le_mul_left (cs2 p) hl
        exact ih w194 σ Z W (by omega) (by omega) I pk (by omega) (fun h' σ' Z' W' zz S' K' I' p1 p2 => cont h' σ' Z' W' zz S' K' I' (by omega) (by omega))
      · refine x_al (by decide +kernel : pins 166 117 = some (5, 118, 0, 0, [])) (v := t) rfl ?_
        refine y_row (k := 4) W (by decide +kernel : pins 166 118 = some (22, 121, 13, 4, [])) (by decide) ?_
        refine x_il (by decide +kernel : pins 166 121 = some (3, 123, 5, 0, [])) (v := h) rfl ?_
        refine y_bald (k := 4) W (by decide +kernel : pins 166 123 = some (25, 124, 0, 0, [])) (by decide) (by decide) (by show 0 ≤ h.toInt ∧ h.toInt < (8 : Int); omega) fun w123 e123 t123 => ?_
        refine y_if0 (by decide +kernel : pins 166 124 = some (16, 127, 0, ((194 : Nat) : Int), [])) (fun c124 => ?_) (fun c124 => ?_)
        · refine y_inc (by decide +kernel : pins 166 194 = some (9, 197, 5, 1, [])) (v := h) rfl fun w194 e194 => ?_
          show wp 166 197 [(5, .int w194), (4, .int wh), (3, .int fr), (2, .int k), (1, .int m), (0, .ref t)] [] σ _
          refine x_go (by decide +kernel : pins 166 197 = some (20, 200, 0, ((104 : Nat) : Int), [])) ?_
          have q194 : w194.toInt = h.toInt + 1 := addc e194 (by decide : (Int32.ofInt 1).toInt = 1) (by omega) (by omega) (by decide) (by decide)
          have hl := lft_le hd hf.2
          rw [← q194] at hl
          have m1 := Nat.mul_le_mul_left (cst p) hl
          have m2 := Nat.mul_le_mul_left (cs2 p) hl
          exact ih w194 σ Z W (by omega) (by omega) I pk (by omega) (fun h' σ' Z' W' zz S' K' I' p1 p2 => cont h' σ' Z' W' zz S' K' I' (by omega) (by omega))
        · refine x_al (by decide +kernel : pins 166 127 = some (5, 128, 0, 0, [])) (v := t) rfl ?_
          refine y_row (k := 6) W (by decide +kernel : pins 166 128 = some (22, 131, 13, 6, [])) (by decide) ?_
          refine x_il (by decide +kernel : pins 166 131 = some (3, 133, 5, 0, [])) (v := h) rfl ?_
          refine y_iald (k := 6) W (by decide +kernel : pins 166 133 = some (24, 134, 0, 0, [])) (by decide) (by decide) (by show 0 ≤ h.toInt ∧ h.toInt < (8 : Int); omega) fun w133 e133 t133 => ?_
          refine x_il (by decide +kernel : pins 166 134 = some (3, 136, 4, 0, [])) (v := wh) rfl ?_
          refine y_ic0 (by decide +kernel : pins 166 136 = some (17, 139, 0, ((142 : Nat) : Int), [])) (fun c136 => ?_) (fun c136 => ?_)
          · refine x_al (by decide +kernel : pins 166 142 = some (5, 143, 0, 0, [])) (v := t) rfl ?_
            refine y_row (k := 9) W (by decide +kernel : pins 166 143 = some (22, 146, 13, 9, [])) (by decide) ?_
            refine x_il (by decide +kernel : pins 166 146 = some (3, 148, 5, 0, [])) (v := h) rfl ?_
            refine y_iald (k := 9) W (by decide +kernel : pins 166 148 = some (24, 149, 0, 0, [])) (by decide) (by decide) (by show 0 ≤ h.toInt ∧ h.toInt < (8 : Int); omega) fun w148 e148 t148 => ?_
            refine y_if5 (by decide +kernel : pins 166 149 = some (16, 152, 5, ((176 : Nat) : Int), [])) (fun c149 => ?_) (fun c149 => ?_)
            · refine x_al (by decide +kernel : pins 166 176 = some (5, 177, 0, 0, [])) (v := t) rfl ?_
              refine y_row (k := 48) W (by decide +kernel : pins 166 177 = some (22, 180, 13, 48, [])) (by decide) ?_
              refine y_ic (by decide +kernel : pins 166 180 = some (0, 181, 3, 0, [])) (by decide) fun w180 e180 i180 => ?_
              refine y_dup2 (by decide +kernel : pins 166 181 = some (35, 182, 0, 0, [])) ⟨rfl, rfl⟩ ?_
              refine y_iald (k := 48) W (by decide +kernel : pins 166 182 = some (24, 183, 0, 0, [])) (by decide) (by decide) (by show 0 ≤ w180.toInt ∧ w180.toInt < (11 : Int); omega) fun w182 e182 t182 => ?_
              refine y_ic (by decide +kernel : pins 166 183 = some (0, 184, 1, 0, [])) (by decide) fun w183 e183 i183 => ?_
              refine y_add (by decide +kernel : pins 166 184 = some (10, 185, 0, 0, [])) fun w184 e184 => ?_
              refine y_iast (k := 48) W (by decide +kernel : pins 166 185 = some (28, 186, 0, 0, [])) (by decide) (by decide) (by show 0 ≤ w180.toInt ∧ w180.toInt < (11 : Int); omega) (okA.any _) fun s185 W185 S185 u185 => ?_
              refine x_al (by decide +kernel : pins 166 186 = some (5, 187, 0, 0, [])) (v := t) rfl ?_
              refine x_il (by decide +kernel : pins 166 187 = some (3, 189, 5, 0, [])) (v := h) rfl ?_
              have f : ∀ j q, ¬ j = 48 → vw t A s185 j q = vw t A σ j q := fun j q a => by rw [u185, up_ne a]
              obtain ⟨x1, x2⟩ := P_same (V' := vw t A s185) W.ty1 (fun j q hj => f j q (by omega))
              have hl0 := lft_ne hd hf.2 c114
              have hP0 : P2 (vw t A s185) ≤ 799 := by rw [x2]; omega
              refine wp_call (q := (36, 192, 172, 0, [2])) (by decide +kernel) rfl ?_ (ms_takes W185 (p := p) ⟨by omega, by omega⟩ (I.of fun j q hj => f j q (by omega)) hP0 (pk.of fun j q hj => f j q (by omega))) ?_
              · have hp : pis s185 t (ow 172) = true := W185.isp
                show (true && (true && (decide (2 ≤ mL 172) && pis s185 t (ow 172)))) = true
                rw [hp]
                decide +kernel
              rintro r σ1 ⟨wt, Z1, er, _, W1, zz1, S1, K1, I1, p1, p2⟩
              subst er
              rw [x1] at p1
              rw [x2] at p2
              show wp 166 192 [(5, .int h), (4, .int wh), (3, .int fr), (2, .int k), (1, .int m), (0, .ref t)] [.int wt] σ1 _
              refine x_is (by decide +kernel : pins 166 192 = some (6, 194, 6, 0, [])) ?_
              show wp 166 194 [(6, .int wt), (5, .int h), (4, .int wh), (3, .int fr), (2, .int k), (1, .int m), (0, .ref t)] [] σ1 _
              refine y_inc (by decide +kernel : pins 166 194 = some (9, 197, 5, 1, [])) (v := h) rfl fun w194 e194 => ?_
              show wp 166 197 [(5, .int w194), (6, .int wt), (4, .int wh), (3, .int fr), (2, .int k), (1, .int m), (0, .ref t)] [] σ1 _
              refine x_go (by decide +kernel : pins 166 197 = some (20, 200, 0, ((104 : Nat) : Int), [])) ?_
              refine wp_lv (lv := [(5, .int w194), (4, .int wh), (3, .int fr), (2, .int k), (1, .int m), (0, .ref t)]) ?_ (lvLe.cons (lvLe.cons (lvLe.cons (lvLe.cons (lvLe.cons (lvLe.cons lvLe.nil rfl) rfl) rfl) rfl) rfl) rfl) (by decide : ([5, 4, 3, 2, 1, 0] : List Nat).Nodup) (by decide : ([5, 6, 4, 3, 2, 1, 0] : List Nat).Nodup)
              have q194 : w194.toInt = h.toInt + 1 := addc e194 (by decide : (Int32.ofInt 1).toInt = 1) (by omega) (by omega) (by decide) (by decide)
              have hl := lft_le hd hf.2
              rw [← q194] at hl
              have hl1 := lft_ne hd hf.2 c114
              rw [← q194] at hl1
              rw [hl1, Nat.mul_succ, Nat.mul_succ] at cont
              rw [hl1, Nat.mul_succ] at hP
              have f2 : ∀ j q, kept j → vw t A σ1 j q = vw t A σ j q := fun j q hj => (K1 j q hj).trans (f j q (by unfold kept at hj; omega))
              exact ih w194 σ1 Z1 W1 (by omega) (by omega) I1 (pk.of fun j q hj => f2 j q (by unfold kept; omega)) (by omega) (fun h' σ' Z' W' zz S' K' I' p1 p2 => cont h' σ' Z' W' (fun a ha => zz a (zz1 a ha)) ((S185.tr S1).tr S') (fun j q hj => (K' j q hj).trans (f2 j q (kept2_k hj).1)) I' (by omega) (by omega))
            · refine x_al (by decide +kernel : pins 166 152 = some (5, 153, 0, 0, [])) (v := t) rfl ?_
              refine y_row (k := 9) W (by decide +kernel : pins 166 153 = some (22, 156, 13, 9, [])) (by decide) ?_
              refine x_il (by decide +kernel : pins 166 156 = some (3, 158, 5, 0, [])) (v := h) rfl ?_
              refine y_dup2 (by decide +kernel : pins 166 158 = some (35, 159, 0, 0, [])) ⟨rfl, rfl⟩ ?_
              refine y_iald (k := 9) W (by decide +kernel : pins 166 159 = some (24, 160, 0, 0, [])) (by decide) (by decide) (by show 0 ≤ h.toInt ∧ h.toInt < (8 : Int); omega) fun w159 e159 t159 => ?_
              refine y_ic (by decide +kernel : pins 166 160 = some (0, 161, 1, 0, [])) (by decide) fun w160 e160 i160 => ?_
              refine y_sub (by decide +kernel : pins 166 161 = some (10, 162, 1, 0, [])) fun w161 e161 => ?_
              refine y_iast (k := 9) W (by decide +kernel : pins 166 162 = some (28, 163, 0, 0, [])) (by decide) (by decide) (by show 0 ≤ h.toInt ∧ h.toInt < (8 : Int); omega) (okA.any _) fun s162 W162 S162 u162 => ?_
              refine x_al (by decide +kernel : pins 166 163 = some (5, 164, 0, 0, [])) (v := t) rfl ?_
              refine y_row (k := 48) W162 (by decide +kernel : pins 166 164 = some (22, 167, 13, 48, [])) (by decide) ?_
              refine y_ic (by decide +kernel : pins 166 167 = some (0, 168, 4, 0, [])) (by decide) fun w167 e167 i167 => ?_
              refine y_dup2 (by decide +kernel : pins 166 168 = some (35, 169, 0, 0, [])) ⟨rfl, rfl⟩ ?_
              refine y_iald (k := 48) W162 (by decide +kernel : pins 166 169 = some (24, 170, 0, 0, [])) (by decide) (by decide) (by show 0 ≤ w167.toInt ∧ w167.toInt < (11 : Int); omega) fun w169 e169 t169 => ?_
              refine y_ic (by decide +kernel : pins 166 170 = some (0, 171, 1, 0, [])) (by decide) fun w170 e170 i170 => ?_
              refine y_add (by decide +kernel : pins 166 171 = some (10, 172, 0, 0, [])) fun w171 e171 => ?_
              refine y_iast (k := 48) W162 (by decide +kernel : pins 166 172 = some (28, 173, 0, 0, [])) (by decide) (by decide) (by show 0 ≤ w167.toInt ∧ w167.toInt < (11 : Int); omega) (okA.any _) fun s172 W172 S172 u172 => ?_
              refine x_go (by decide +kernel : pins 166 173 = some (20, 176, 0, ((194 : Nat) : Int), [])) ?_
              refine y_inc (by decide +kernel : pins 166 194 = some (9, 197, 5, 1, [])) (v := h) rfl fun w194 e194 => ?_
              show wp 166 197 [(5, .int w194), (4, .int wh), (3, .int fr), (2, .int k), (1, .int m), (0, .ref t)] [] s172 _
              refine x_go (by decide +kernel : pins 166 197 = some (20, 200, 0, ((104 : Nat) : Int), [])) ?_
              have q194 : w194.toInt = h.toInt + 1 := addc e194 (by decide : (Int32.ofInt 1).toInt = 1) (by omega) (by omega) (by decide) (by decide)
              have hl := lft_le hd hf.2
              rw [← q194] at hl
              have f : ∀ j q, ¬ j = 9 → ¬ j = 48 → vw t A s172 j q = vw t A σ j q := fun j q a b => by rw [u172, up_ne b, u162, up_ne a]
              obtain ⟨x1, x2⟩ := P_same (V' := vw t A s172) W.ty1 (fun j q hj => f j q (by omega) (by omega))
              have m1 := Nat.mul_le_mul_left (cst p) hl
              have m2 := Nat.mul_le_mul_left (cs2 p) hl
              exact ih w194 s172 Z W172 (by omega) (by omega) (I.of fun j q hj => f j q (by omega) (by omega)) (pk.of fun j q hj => f j q (by omega) (by omega)) (by omega) (fun h' σ' Z' W' zz S' K' I' p1 p2 => cont h' σ' Z' W' zz ((S162.tr S172).tr S') (fun j q hj => (K' j q hj).trans (f j q (kept2_k hj).2.1 (kept2_k hj).2.2.2.2.2.1)) I' (by omega) (by omega))
          · refine x_go (by decide +kernel : pins 166 139 = some (20, 142, 0, ((194 : Nat) : Int), [])) ?_
            refine y_inc (by decide +kernel : pins 166 194 = some (9, 197, 5, 1, [])) (v := h) rfl fun w194 e194 => ?_
            show wp 166 197 [(5, .int w194), (4, .int wh), (3, .int fr), (2, .int k), (1, .int m), (0, .ref t)] [] σ _
            refine x_go (by decide +kernel : pins 166 197 = some (20, 200, 0, ((104 : Nat) : Int), [])) ?_
            have q194 : w194.toInt = h.toInt + 1 := addc e194 (by decide : (Int32.ofInt 1).toInt = 1) (by omega) (by omega) (by decide) (by decide)
            have hl := lft_le hd hf.2
            rw [← q194] at hl
            have m1 := Nat.mul_le_mul_left (cst p) hl
            have m2 := Nat.mul_le_mul_left (cs2 p) hl
            exact ih w194 σ Z W (by omega) (by omega) I pk (by omega) (fun h' σ' Z' W' zz S' K' I' p1 p2 => cont h' σ' Z' W' zz S' K' I' (by omega) (by omega))
theorem P2_0 {V : Nat → Nat → Value} (h : (gI V 47 0).toInt ≤ 0) : P2 V ≤ 16 := by
  have e : rg w2 V = 0 := by unfold rg; rw [show (gI V 47 0).toInt.toNat = 0 by omega]; rfl
  have s : sm (hD V) 8 ≤ sm (fun _ => 2) 8 := sm_le 8 fun i _ => hD_le2
  have : sm (fun _ => 2) 8 = 16 := by decide
  unfold P2
  omega
set_option maxHeartbeats 4000000 in
theorem ms_loop {t : Nat} {A : Nat → Nat} {P : Option Value → ps → Prop} : ∀ (N : Nat) (m : Int32) (σ : ps) (Z : Nat → Prop), WT Z t A σ → MsI (vw t A σ) → P2 (vw t A σ) ≤ 790 → P1 (vw t A σ) ≤ N → (∀ (σ' : ps) (Z' : Nat → Prop), WT Z' t A σ' → (∀ a, Z a → Z' a) → SP t A σ σ' → (∀ j q, kept2 j → vw t A σ' j q = vw t A σ j q) → MsI (vw t A σ') → (gI (vw t A σ') 47 0).toInt = 0 → P none σ') → wp 166 6 [(1, .int m), (0, .ref t)] [] σ P := by
  intro N
  induction N using Nat.strongRecOn with
  | ind N ih =>
    intro m σ Z W I hP hN cont
    refine x_al (by decide +kernel : pins 166 6 = some (5, 7, 0, 0, [])) (v := t) rfl ?_
    refine y_fi (k := 47) W (by decide +kernel : pins 166 7 = some (22, 10, 13, 47, [])) (by decide) fun w7 e7 t7 => ?_
    refine y_if5 (by decide +kernel : pins 166 10 = some (16, 13, 5, ((203 : Nat) : Int), [])) (fun c10 => ?_) (fun c10 => ?_)
    · refine x_al (by decide +kernel : pins 166 203 = some (5, 204, 0, 0, [])) (v := t) rfl ?_
      refine wp_call (q := (36, 207, 164, 0, [1])) (by decide +kernel) rfl ?_ (ms_acts W I (by omega)) ?_
      · have hp : pis σ t (ow 164) = true := W.isp
        show (true && (true && (decide (1 ≤ mL 164) && pis σ t (ow 164)))) = true
        rw [hp]
        decide +kernel
      rintro r σ1 (⟨er, es⟩ | ⟨Z1, er, W1, zz1, S1, K1, I1, p1, p2⟩)
      · subst er; rw [es]
        show wp 166 207 [(1, .int m), (0, .ref t)] [.int 0] σ _
        refine x_is (by decide +kernel : pins 166 207 = some (6, 208, 1, 0, [])) ?_
        show wp 166 208 [(1, .int 0), (0, .ref t)] [] σ _
        refine x_go (by decide +kernel : pins 166 208 = some (20, 211, 0, ((2 : Nat) : Int), [])) ?_
        refine x_il (by decide +kernel : pins 166 2 = some (3, 3, 1, 0, [])) (v := 0) rfl ?_
        refine y_if0 (by decide +kernel : pins 166 3 = some (16, 6, 0, ((211 : Nat) : Int), [])) (fun c3 => ?_) (fun c3 => ?_)
        · refine y_ret37 (by decide +kernel : pins 166 211 = some (37, 212, 0, 0, [])) (by decide +kernel) ?_
          rw [e7] at c10
          exact cont σ Z W (fun _ h => h) (SP.rf W.W) (fun _ _ _ => rfl) I (by have := W.many; omega)
        · exact absurd (by decide) c3
      · subst er
        show wp 166 207 [(1, .int m), (0, .ref t)] [.int 1] σ1 _
        refine x_is (by decide +kernel : pins 166 207 = some (6, 208, 1, 0, [])) ?_
        show wp 166 208 [(1, .int 1), (0, .ref t)] [] σ1 _
        refine x_go (by decide +kernel : pins 166 208 = some (20, 211, 0, ((2 : Nat) : Int), [])) ?_
        refine x_il (by decide +kernel : pins 166 2 = some (3, 3, 1, 0, [])) (v := 1) rfl ?_
        refine y_if0 (by decide +kernel : pins 166 3 = some (16, 6, 0, ((211 : Nat) : Int), [])) (fun c3 => ?_) (fun c3 => ?_)
        · exact absurd c3 (by decide)
        · rw [e7] at c10
          have r0 := P2_0 (V := vw t A σ) (by have := W.many; omega)
          refine ih (P1 (vw t A σ1)) (by omega) _ σ1 Z1 W1 I1 (by omega) (by omega) (fun σ' Z' W' zz S' K' I' e' => cont σ' Z' W' (fun a ha => zz a (zz1 a ha)) (S1.tr S') (fun j q hj => (K' j q hj).trans (K1 j q (kept2_k hj).1)) I' e')
    · refine x_al (by decide +kernel : pins 166 13 = some (5, 14, 0, 0, [])) (v := t) rfl ?_
      refine y_fi (k := 46) W (by decide +kernel : pins 166 14 = some (22, 17, 13, 46, [])) (by decide) fun w14 e14 t14 => ?_
      refine x_is (by decide +kernel : pins 166 17 = some (6, 18, 2, 0, [])) ?_
      show wp 166 18 [(2, .int w14), (1, .int m), (0, .ref t)] [] σ _
      refine x_al (by decide +kernel : pins 166 18 = some (5, 19, 0, 0, [])) (v := t) rfl ?_
      refine x_al (by decide +kernel : pins 166 19 = some (5, 20, 0, 0, [])) (v := t) rfl ?_
      refine y_fi (k := 46) W (by decide +kernel : pins 166 20 = some (22, 23, 13, 46, [])) (by decide) fun w20 e20 t20 => ?_
      refine y_ic (by decide +kernel : pins 166 23 = some (0, 24, 1, 0, [])) (by decide) fun w23 e23 i23 => ?_
      refine y_add (by decide +kernel : pins 166 24 = some (10, 25, 0, 0, [])) fun w24 e24 => ?_
      refine y_ic (by decide +kernel : pins 166 25 = some (0, 28, 800, 0, [])) (by decide) fun w25 e25 i25 => ?_
      have q24 : w24.toInt = (gI (vw t A σ) 46 0).toInt + 1 := by have := W.at; rw [addc e24 i23 (by rw [e20]; omega) (by rw [e20]; omega) (by decide) (by decide), e20]
      refine y_rem (by decide +kernel : pins 166 28 = some (10, 29, 4, 0, [])) (by rw [e25]; decide) fun w28 e28 => ?_
      have q28 : 0 ≤ w28.toInt ∧ w28.toInt ≤ 799 := by have := W.at; rw [i32_rem e28 i25 (by omega)]; omega
      refine y_put (k := 46) W (by decide +kernel : pins 166 29 = some (23, 32, 13, 46, [])) (by decide) rfl (okA.mkI (lo := 0) (hi := 799) q28.1 q28.2) fun s29 W29 S29 u29 => ?_
      refine x_al (by decide +kernel : pins 166 32 = some (5, 33, 0, 0, [])) (v := t) rfl ?_
      refine y_dup (by decide +kernel : pins 166 33 = some (34, 34, 0, 0, [])) rfl ?_
      refine y_fi (k := 47) W29 (by decide +kernel : pins 166 34 = some (22, 37, 13, 47, [])) (by decide) fun w34 e34 t34 => ?_
      refine y_ic (by decide +kernel : pins 166 37 = some (0, 38, 1, 0, [])) (by decide) fun w37 e37 i37 => ?_
      refine y_sub (by decide +kernel : pins 166 38 = some (10, 39, 1, 0, [])) fun w38 e38 => ?_
      have q34 : w34 = gI (vw t A σ) 47 0 := by rw [e34, u29, gI_ne (by decide)]
      have q38 : w38.toInt = (gI (vw t A σ) 47 0).toInt - 1 := by have := W.many; rw [e38, n_sub (by rw [i37, q34]; omega) (by rw [i37, q34]; omega), i37, q34]
      refine y_put (k := 47) W29 (by decide +kernel : pins 166 39 = some (23, 42, 13, 47, [])) (by decide) rfl (okA.mkI (lo := 0) (hi := 1001) (by rw [e7] at c10; omega) (by have := W.many; omega)) fun s39 W39 S39 u39 => ?_
      refine x_al (by decide +kernel : pins 166 42 = some (5, 43, 0, 0, [])) (v := t) rfl ?_
      refine x_al (by decide +kernel : pins 166 43 = some (5, 44, 0, 0, [])) (v := t) rfl ?_
      refine y_row (k := 43) W39 (by decide +kernel : pins 166 44 = some (22, 47, 13, 43, [])) (by decide) ?_
      refine x_il (by decide +kernel : pins 166 47 = some (3, 48, 2, 0, [])) (v := w14) rfl ?_
      refine y_iald (k := 43) W39 (by decide +kernel : pins 166 48 = some (24, 49, 0, 0, [])) (by decide) (by decide) (by show 0 ≤ w14.toInt ∧ w14.toInt < (800 : Int); have := W.at; rw [e14]; exact this) fun w48 e48 t48 => ?_
      refine y_put (k := 58) W39 (by decide +kernel : pins 166 49 = some (23, 52, 13, 58, [])) (by decide) rfl (okA.mkI (lo := 0) (hi := 200) t48.1 t48.2) fun s49 W49 S49 u49 => ?_
      refine y_ic (by decide +kernel : pins 166 52 = some (0, 53, 0, 0, [])) (by decide) fun w52 e52 i52 => ?_
      refine x_is (by decide +kernel : pins 166 53 = some (6, 54, 3, 0, [])) ?_
      show wp 166 54 [(3, .int w52), (2, .int w14), (1, .int m), (0, .ref t)] [] s49 _
      rw [e7] at c10
      have t48 : (0 : Int) ≤ w48.toInt ∧ w48.toInt ≤ 200 := t48
      have g58 : gI (vw t A s49) 58 0 = w48 := by rw [u49, gI_sc (by decide)]
      refine ms_copy (k := w14) (m := m) (by have := W.at; rw [e14]; exact this) w48.toInt.toNat w52 s49 W49 (by rw [i52]; decide) (by rw [i52, g58]; omega) (fun q hq => by rw [i52] at hq; omega) ?_
      intro i' σ2 W2 S2 f2 c2
      refine x_al (by decide +kernel : pins 166 86 = some (5, 87, 0, 0, [])) (v := t) rfl ?_
      refine y_row (k := 44) W2 (by decide +kernel : pins 166 87 = some (22, 90, 13, 44, [])) (by decide) ?_
      refine x_il (by decide +kernel : pins 166 90 = some (3, 91, 2, 0, [])) (v := w14) rfl ?_
      refine y_iald (k := 44) W2 (by decide +kernel : pins 166 91 = some (24, 92, 0, 0, [])) (by decide) (by decide) (by show 0 ≤ w14.toInt ∧ w14.toInt < (800 : Int); have := W.at; rw [e14]; exact this) fun w91 e91 t91 => ?_
      refine x_is (by decide +kernel : pins 166 92 = some (6, 93, 3, 0, [])) ?_
      show wp 166 93 [(3, .int w91), (2, .int w14), (1, .int m), (0, .ref t)] [] σ2 _
      refine x_al (by decide +kernel : pins 166 93 = some (5, 94, 0, 0, [])) (v := t) rfl ?_
      refine y_row (k := 45) W2 (by decide +kernel : pins 166 94 = some (22, 97, 13, 45, [])) (by decide) ?_
      refine x_il (by decide +kernel : pins 166 97 = some (3, 98, 2, 0, [])) (v := w14) rfl ?_
      refine y_iald (k := 45) W2 (by decide +kernel : pins 166 98 = some (24, 99, 0, 0, [])) (by decide) (by decide) (by show 0 ≤ w14.toInt ∧ w14.toInt < (800 : Int); have := W.at; rw [e14]; exact this) fun w98 e98 t98 => ?_
      refine x_is (by decide +kernel : pins 166 99 = some (6, 101, 4, 0, [])) ?_
      show wp 166 101 [(4, .int w98), (3, .int w91), (2, .int w14), (1, .int m), (0, .ref t)] [] σ2 _
      refine y_ic (by decide +kernel : pins 166 101 = some (0, 102, 0, 0, [])) (by decide) fun w101 e101 i101 => ?_
      refine x_is (by decide +kernel : pins 166 102 = some (6, 104, 5, 0, [])) ?_
      show wp 166 104 [(5, .int w101), (4, .int w98), (3, .int w91), (2, .int w14), (1, .int m), (0, .ref t)] [] σ2 _
      have f49 : ∀ j q, ¬ j = 46 → ¬ j = 47 → ¬ j = 58 → vw t A s49 j q = vw t A σ j q := fun j q a b c => by rw [u49, up_ne c, u39, up_ne b, u29, up_ne a]
      have f3 : ∀ j q, ¬ j = 46 → ¬ j = 47 → ¬ j = 58 → ¬ j = 57 → vw t A σ2 j q = vw t A σ j q := fun j q a b c d => (f2 j q d).trans (f49 j q a b c)
      have at0 := W.at
      have mn := W.many
      have g46 : (gI (vw t A σ2) 46 0).toInt = ((gI (vw t A σ) 46 0).toInt + 1) % 800 := by
        rw [gI_of (f2 46 0 (by decide)), u49, gI_ne (by decide), u39, gI_ne (by decide), u29, gI_sc (by decide), i32_rem e28 i25 (by omega), q24]
      have g47 : (gI (vw t A σ2) 47 0).toInt = (gI (vw t A σ) 47 0).toInt - 1 := by
        rw [gI_of (f2 47 0 (by decide)), u49, gI_ne (by decide), u39, gI_sc (by decide), q38]
      obtain ⟨x1, x2⟩ := pop_pot (V' := vw t A σ2) W.ty1 at0 g46 g47 (by omega) (fun j q hj => f3 j q (by omega) (by omega) (by omega) (by omega))
      have pv := pk_val (vw t A σ) (gI (vw t A σ) 46 0).toInt.toNat
      have e14n : w14.toNatClampNeg = (gI (vw t A σ) 46 0).toInt.toNat := by rw [e14]; rfl
      have g58b : gI (vw t A σ2) 58 0 = gI (vw t A s49) 58 0 := gI_of (f2 58 0 (by decide))
      have r42 : ∀ q, gI (vw t A s49) 42 q = gI (vw t A σ) 42 q := fun q => gI_of (f49 42 q (by decide) (by decide) (by decide))
      have PK : Pkt (vw t A σ2) (pk (vw t A σ) (gI (vw t A σ) 46 0).toInt.toNat) := by
        refine ⟨_, _, _, rfl, fun z => ?_, fun z => ⟨?_, ?_⟩⟩
        · rw [g58b] at z; rw [c2 0 (by omega), r42, e14n]; rfl
        · rw [g58b] at z; rw [c2 1 (by omega), r42, e14n]
        · rw [g58b] at z; rw [c2 7 (by omega), r42, e14n]
      have t91 : (0 : Int) ≤ w91.toInt ∧ w91.toInt ≤ 7 := t91
      have l7 : lft w101.toInt w91.toInt 8 = 7 := by unfold lft; rw [if_pos (by rw [i101]; exact t91.1)]
      have I2 : MsI (vw t A σ2) := I.of fun j q hj => f3 j q (by omega) (by omega) (by omega) (by omega)
      generalize hpp : pk (vw t A σ) (gI (vw t A σ) 46 0).toInt.toNat = pp at *
      have cc : cst pp * 7 + 1 ≤ pp ∧ cs2 pp * 7 + 1 ≤ w2 pp := by
        rcases pv with e | e | e <;> subst e <;> decide
      refine ms_hosts (k := w14) (m := m) (wh := w98) (p := pp) t91 8 w101 σ2 Z W2 (by rw [i101]; decide) (by rw [i101]; decide) I2 PK (by rw [l7]; omega) ?_
      rw [l7]
      intro h' σ3 Z3 W3 zz3 S3 K3 I3 p1 p2
      refine x_go (by decide +kernel : pins 166 200 = some (20, 203, 0, ((6 : Nat) : Int), [])) ?_
      refine wp_lv (lv := [(1, .int m), (0, .ref t)]) ?_ (lvLe.cons (lvLe.cons lvLe.nil rfl) rfl) (by decide : ([1, 0] : List Nat).Nodup) (by decide : ([5, 4, 3, 2, 1, 0] : List Nat).Nodup)
      refine ih (P1 (vw t A σ3)) (by omega) _ σ3 Z3 W3 I3 (by omega) (by omega) (fun σ' Z' W' zz S' K' I' e' => cont σ' Z' W' (fun a ha => zz a (zz3 a ha)) ((((S29.tr S39).tr S49).tr (S2.tr S3)).tr S') (fun j q hj => ((K' j q hj).trans (K3 j q hj)).trans ?_) I' e')
      have := kept2_k hj
      exact f3 j q (by omega) (by omega) (by omega) (by omega)
