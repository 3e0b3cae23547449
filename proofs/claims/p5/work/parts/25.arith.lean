theorem aSum_0 (a b : AV) : (aSum a b).1 = 0 := by unfold aSum; split; rfl; exact aI_0 _ _
theorem aop_0 {α : AS} {o : Int} {x y : Nat} (hx : (eg α x).1.1 = 0) (hy : (eg α y).1.1 = 0) : (aop α o x y).1.1 = 0 := by
  unfold aop
  repeat' split
  all_goals first | rfl | exact aI_0 _ _ | exact aSum_0 _ _ | exact hy
theorem n_mulb {c lo hi v : Int} (hc : 0 ≤ c) (h1 : lo ≤ v) (h2 : v ≤ hi) : c * lo ≤ c * v ∧ c * v ≤ c * hi := ⟨Int.mul_le_mul_of_nonneg_left h1 hc, Int.mul_le_mul_of_nonneg_left h2 hc⟩
theorem n_mul16 {c v : Int} (h : c % 16 = 0) : (c * v) % 16 = 0 := by
  obtain ⟨d, hd⟩ := Int.dvd_of_emod_eq_zero h
  rw [hd, Int.mul_assoc, Int.mul_emod_right]
section AR
variable {X : CT} {rw : Nat → Prop} {Z0 : Nat → Prop} {σ0 : ps} {vs : List Value} {Z : Nat → Prop} {ρ : Nat → Value} {α : AS} {lv : LV} {st : List Value} {σ : ps} {k : Nat → AS → Bool} {nx : Nat}
theorem okA.mulc {L : List Nat} {K : Nat → Nat} {c : Int} {t : AV} {v w : Int32} (hc : 0 ≤ c) (h1 : t.2.1 ≤ v.toInt) (h2 : v.toInt ≤ t.2.2.1) (r1 : inR (c * t.2.1) = true) (r2 : inR (c * t.2.2.1) = true) (hw : w.toInt = c * v.toInt) : okA Z L K (if c % 16 = 0 then (0, c * t.2.1, c * t.2.2.1, 0, 0) else aI (c * t.2.1) (c * t.2.2.1)) (.int w) := by
  have b := n_mulb hc h1 h2
  split
  · rename_i h16
    have := n_mul16 (v := v.toInt) h16
    exact Or.inl ⟨rfl, w, rfl, by simp only; omega, by simp only; omega, by simp only; omega, by simp only; omega⟩
  · exact okA.mkI (by omega) (by omega)
theorem aop_ok (hw : wfB α = true) (hG : G Z ρ α lv st σ) {o : Int} {x y : Nat} {a b : Int32} (ho : 0 ≤ o ∧ o ≤ 9) (hx : (eg α x).1.1 = 0) (hy : (eg α y).1.1 = 0) (hd : o = 3 ∨ o = 4 → 1 ≤ (eg α y).1.2.1) (ea : ρ x = .int a) (eb : ρ y = .int b) :
    ∃ z, iop o a b = some z ∧ okA Z (sL σ) (sK σ) (aop α o x y).1 (.int z) ∧ ((aop α o x y).2.1 = 0 ∨ ∃ u w : Int32, Value.int z = .int u ∧ ρ ((aop α o x y).2.1 - 1) = .int w ∧ u.toInt = w.toInt + (aop α o x y).2.2 ∧ (aop α o x y).2.1 - 1 < α.1.length) := by
  obtain ⟨a', e1, x1, x2, x3, x4⟩ := hG.int hx
  rw [ea] at e1
  cases e1
  obtain ⟨b', e2, y1, y2, y3, y4⟩ := hG.int hy
  rw [eb] at e2
  cases e2
  have hxl := (hG.ok (i := x) (by omega)).2.2
  have hyl := (hG.ok (i := y) (by omega)).2.2
  have none0 : ((0 : Nat), (0 : Int)).1 = 0 := rfl
  unfold iop aop
  by_cases o0 : o = 0
  · rw [if_pos o0, if_pos o0]
    refine ⟨_, rfl, ?_⟩
    split
    · rename_i hr
      rw [Bool.and_eq_true] at hr
      have r1 := inR_ok hr.1
      have r2 := inR_ok hr.2
      have ez : (a + b).toInt = a.toInt + b.toInt := n_add (by omega) (by omega)
      refine ⟨?_, ?_⟩
      · unfold aSum
        split
        · exact Or.inl ⟨rfl, _, rfl, by simp only; omega, by simp only; omega, by simp only; omega, by simp only; omega⟩
        · exact okA.mkI (by omega) (by omega)
      · simp only
        split
        · rename_i hc
          unfold aCst at hc
          rw [decide_eq_true_eq] at hc
          exact adep_ok hG hw hxl ea (by omega)
        · split
          · rename_i hc
            unfold aCst at hc
            rw [decide_eq_true_eq] at hc
            exact adep_ok hG hw hyl eb (by omega)
          · exact Or.inl rfl
    · exact ⟨okA.any _, Or.inl rfl⟩
  rw [if_neg o0, if_neg o0]
  by_cases o1 : o = 1
  · rw [if_pos o1, if_pos o1]
    refine ⟨_, rfl, ?_⟩
    split
    · rename_i hr
      rw [Bool.and_eq_true] at hr
      have r1 := inR_ok hr.1
      have r2 := inR_ok hr.2
      have ez : (a - b).toInt = a.toInt - b.toInt := n_sub (by omega) (by omega)
      refine ⟨okA.mkI (by omega) (by omega), ?_⟩
      simp only
      split
      · rename_i hc
        unfold aCst at hc
        rw [decide_eq_true_eq] at hc
        exact adep_ok hG hw hxl ea (by omega)
      · exact Or.inl rfl
    · exact ⟨okA.any _, Or.inl rfl⟩
  rw [if_neg o1, if_neg o1]
  by_cases o2 : o = 2
  · rw [if_pos o2, if_pos o2]
    refine ⟨_, rfl, ?_⟩
    split
    · rename_i hr
      unfold aCst at hr
      simp only [Bool.and_eq_true, decide_eq_true_eq] at hr
      obtain ⟨hc, h0, r1, r2⟩ := hr
      have ec : a.toInt = (eg α x).1.2.1 := by omega
      have bb := n_mulb h0 y1 y2
      have i1 := inR_ok r1
      have i2 := inR_ok r2
      have ez : (a * b).toInt = (eg α x).1.2.1 * b.toInt := by rw [n_mul (by rw [ec]; omega) (by rw [ec]; omega), ec]
      exact ⟨okA.mulc h0 y1 y2 r1 r2 ez, Or.inl rfl⟩
    · split
      · rename_i hr
        unfold aCst at hr
        simp only [Bool.and_eq_true, decide_eq_true_eq] at hr
        obtain ⟨hc, h0, r1, r2⟩ := hr
        have ec : b.toInt = (eg α y).1.2.1 := by omega
        have bb := n_mulb h0 x1 x2
        have i1 := inR_ok r1
        have i2 := inR_ok r2
        have ez : (a * b).toInt = (eg α y).1.2.1 * a.toInt := by rw [n_mul (by rw [ec, Int.mul_comm]; omega) (by rw [ec, Int.mul_comm]; omega), ec, Int.mul_comm]
        exact ⟨okA.mulc h0 x1 x2 r1 r2 ez, Or.inl rfl⟩
      · exact ⟨okA.any _, Or.inl rfl⟩
  rw [if_neg o2, if_neg o2]
  by_cases o3 : o = 3
  · have hb := hd (Or.inl o3)
    have hb0 : ¬ b = 0 := fun e => by rw [e, Int32.toInt_zero] at y1; omega
    rw [if_pos o3, if_pos o3, if_neg hb0]
    refine ⟨_, rfl, ?_⟩
    split
    · rename_i hr
      unfold aCst at hr
      simp only [Bool.and_eq_true, decide_eq_true_eq] at hr
      have eb : b.toInt = (eg α y).1.2.1 := by omega
      have ez : (a / b).toInt = a.toInt / b.toInt := n_divp (by omega) (by omega)
      rw [eb] at ez
      exact ⟨okA.mkI (by rw [ez]; exact Int.ediv_le_ediv (by omega) x1) (by rw [ez]; exact Int.ediv_le_ediv (by omega) x2), Or.inl rfl⟩
    · have ez := n_div (x := a) (y := b) (by omega)
      have q := n_tdiv (a := a.toInt) (b := b.toInt) (by omega)
      refine ⟨okA.mkI ?_ ?_, Or.inl rfl⟩
      · rw [ez]
        by_cases ha : 0 ≤ a.toInt
        · have := (q.1 ha).1; omega
        · have := (q.2 (by omega)).1; omega
      · rw [ez]
        by_cases ha : 0 ≤ a.toInt
        · have := (q.1 ha).2; omega
        · have := (q.2 (by omega)).2; omega
  rw [if_neg o3, if_neg o3]
  by_cases o4 : o = 4
  · have hb := hd (Or.inr o4)
    have hb0 : ¬ b = 0 := fun e => by rw [e, Int32.toInt_zero] at y1; omega
    rw [if_pos o4, if_pos o4, if_neg hb0]
    refine ⟨_, rfl, ?_⟩
    have ez := n_rem (x := a) (y := b) (by omega)
    have q1 := Int.tmod_lt_of_pos a.toInt (b := b.toInt) (by omega)
    have q2 := Int.lt_tmod_of_pos a.toInt (b := b.toInt) (by omega)
    split
    · rename_i hr
      rw [decide_eq_true_eq] at hr
      have q3 := Int.tmod_nonneg (a := a.toInt) b.toInt (by omega)
      have q4 : a.toInt.tmod b.toInt ≤ a.toInt := by
        rw [Int.tmod_eq_emod_of_nonneg (by omega)]
        have h5 := Int.mul_ediv_add_emod a.toInt b.toInt
        have h6 : 0 ≤ b.toInt * (a.toInt / b.toInt) := Int.mul_nonneg (by omega) (Int.ediv_nonneg (by omega) (by omega))
        omega
      exact ⟨okA.mkI (by omega) (by omega), Or.inl rfl⟩
    · exact ⟨okA.mkI (by omega) (by omega), Or.inl rfl⟩
  rw [if_neg o4, if_neg o4]
  by_cases o5 : o = 5
  · rw [if_pos o5, if_pos o5]
    refine ⟨_, rfl, ?_⟩
    split
    · have q := n_and (x := a) (y := b) (by omega)
      exact ⟨okA.mkI (by omega) (by omega), Or.inl rfl⟩
    · split
      · have q := n_and (x := b) (y := a) (by omega)
        rw [n_andc]
        exact ⟨okA.mkI (by omega) (by omega), Or.inl rfl⟩
      · exact ⟨okA.any _, Or.inl rfl⟩
  rw [if_neg o5, if_neg o5]
  by_cases o6 : o = 6
  · rw [if_pos o6, if_pos o6]
    refine ⟨_, rfl, ?_⟩
    split
    · rename_i hr
      unfold aCst at hr
      simp only [Bool.and_eq_true, decide_eq_true_eq] at hr
      have ea0 : a = 0 := Int32.toInt_inj.mp (by rw [Int32.toInt_zero]; omega)
      rw [ea0, Int32.zero_or]
      exact ⟨by have := (hG.ok (i := y) (by omega)).1; rw [eb] at this; exact this, Or.inl rfl⟩
    · exact ⟨okA.any _, Or.inl rfl⟩
  rw [if_neg o6, if_neg o6]
  by_cases o7 : o = 7
  · subst o7
    exact ⟨_, rfl, okA.any _, Or.inl rfl⟩
  rw [if_neg o7]
  by_cases o8 : o = 8
  · rw [if_pos o8, if_pos o8]
    refine ⟨_, rfl, ?_⟩
    split
    · rename_i hr
      unfold aCst at hr
      simp only [Bool.and_eq_true, decide_eq_true_eq] at hr
      have ea0 : a = 0 := Int32.toInt_inj.mp (by rw [Int32.toInt_zero]; omega)
      rw [ea0, Int32.zero_shiftLeft]
      exact ⟨okA.mkI (by rw [Int32.toInt_zero]; omega) (by rw [Int32.toInt_zero]; omega), Or.inl rfl⟩
    · exact ⟨okA.any _, Or.inl rfl⟩
  rw [if_neg o8, if_neg o8]
  have o9 : o = 9 := by omega
  rw [if_pos o9, if_pos o9]
  refine ⟨_, rfl, ?_⟩
  split
  · have q := n_shr (x := a) (y := b &&& 31) (by omega)
    exact ⟨okA.mkI (by omega) (by omega), Or.inl rfl⟩
  · exact ⟨okA.any _, Or.inl rfl⟩
variable {q1 q2 : Int} {ts : List Nat}
theorem clk_mem {l : List CH} {o t : Nat} {x : Int} {s : Nat} (h : clk l o t x = some s) : (o, t, x, s) ∈ l := by
  induction l with
  | nil => cases h
  | cons c r ih =>
    unfold clk at h
    by_cases hc : c.1 = o ∧ c.2.1 = t ∧ c.2.2.1 = x
    · rw [if_pos hc] at h
      cases h
      obtain ⟨a1, a2, a3⟩ := hc
      obtain ⟨c1, c2, c3, c4⟩ := c
      simp only at a1 a2 a3
      subst a1 a2 a3
      exact List.mem_cons_self
    · rw [if_neg hc] at h
      exact List.mem_cons_of_mem _ (ih h)
theorem o10 (hw : wfB α = true) (I : Inv X rw Z0 σ0 vs Z ρ α lv st σ) (h : ast X (10, nx, q1, q2, ts) α k = true) : Nx X rw Z0 σ0 vs (10, nx, q1, q2, ts) lv st σ k := by
  have h : (match α.2.2.1 with
    | y :: x :: r => ((eg α x).1.1 == 0 && ((eg α y).1.1 == 0 && (!(decide (q1 = 3) || decide (q1 = 4)) || decide (1 ≤ (eg α y).1.2.1)))) && (decide (0 ≤ q1) && decide (q1 ≤ 9)) && amul α q1 x y r (k nx)
    | _ => false) = true := h
  split at h
  · rename_i y x r hs
    simp only [Bool.and_eq_true, beq_iff_eq, decide_eq_true_eq] at h
    obtain ⟨⟨⟨hx, hy, hd⟩, ho⟩, h2⟩ := h
    have hd' : q1 = 3 ∨ q1 = 4 → 1 ≤ (eg α y).1.2.1 := by
      intro hq
      simp only [Bool.or_eq_true, Bool.not_eq_true', Bool.or_eq_false_iff, decide_eq_false_iff_not, decide_eq_true_eq] at hd
      rcases hd with hd | hd
      · exact absurd hq (by omega)
      · exact hd
    obtain ⟨a, ea, x1, x2, _⟩ := I.1.int hx
    obtain ⟨b, eb, y1, y2, _⟩ := I.1.int hy
    obtain ⟨z, ez, hz, hdep⟩ := aop_ok hw I.1 ho hx hy hd' ea eb
    have hst := I.1.stk hs
    rw [List.map_cons, List.map_cons, ea, eb] at hst
    have hwr : ∀ q ∈ r, q < α.1.length := fun q hq => wf_st hw q (by rw [hs]; exact List.mem_cons_of_mem _ (List.mem_cons_of_mem _ hq))
    have J := I.push hw (l := r) hz (by rw [aop_0 hx hy]; decide) hdep hwr
    have hp : pst (10, nx, q1, q2, ts) lv st σ = some (nx, lv, .int z :: r.map ρ, σ) := by
      show f_iop _ _ _ _ = _
      unfold f_iop
      rw [hst]
      simp only
      rw [ez]
    unfold amul at h2
    split at h2
    · rename_i hc
      obtain ⟨hc2, hcs⟩ := hc
      unfold aCst at hcs
      rw [decide_eq_true_eq] at hcs
      subst hc2
      have ea' : a.toInt = (eg α x).1.2.1 := by omega
      have ezz : z = a * b := by
        have : iop 2 a b = some (a * b) := rfl
        rw [this] at ez
        exact (Option.some.inj ez).symm
      split at h2
      · rename_i s hs2
        obtain ⟨t0, h3⟩ := kN h2
        rw [beq_iff_eq] at t0
        have hm := I.1.2.2.2.1 _ (clk_mem hs2)
        rcases hm with ⟨_, u, w, m1, m2, m3⟩ | ⟨_, m1, _⟩
        · simp only at m1 m2 m3
          rw [eb] at m1
          cases m1
          have ew : w = a := Int32.toInt_inj.mp (by omega)
          refine ⟨nx, lv, .int z :: r.map ρ, σ, _, ρ, Z, hp, h3, ?_⟩
          have := I.st (s :: r)
          rw [List.map_cons, m3, ew, ← ezz] at this
          exact this
        · simp only at m1
          rw [eb] at m1
          cases m1
      · refine ⟨nx, lv, .int z :: r.map ρ, σ, _, ru ρ α.1.length (.int z), Z, hp, h2, ?_⟩
        refine ⟨⟨J.1.1, J.1.2.1, J.1.2.2.1, fun c hc => ?_, J.1.2.2.2.2.1, J.1.2.2.2.2.2⟩, J.2.1, J.2.2.1, J.2.2.2⟩
        rcases List.mem_cons.mp hc with e | hc
        · subst e
          have hyl := (I.1.ok (i := y) (by omega)).2.2
          refine Or.inl ⟨rfl, b, a, ?_, ea', ?_⟩
          · show ru ρ α.1.length _ y = _
            rw [ru_ne _ (by omega)]; exact eb
          · show ru ρ α.1.length _ α.1.length = _
            rw [ru_self, ezz]
        · exact J.1.2.2.2.1 c hc
    · exact ⟨nx, lv, .int z :: r.map ρ, σ, _, _, Z, hp, h2, J⟩
  · cases h
end AR
