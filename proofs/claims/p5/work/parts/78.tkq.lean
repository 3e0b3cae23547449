section
variable {V V' V1 : Nat → Nat → Value} {h : Nat}
theorem Bad_eqA (e : ∀ q, V' 21 q = V 21 q) : Bad V' h = Bad V h := by
  unfold Bad gI; simp only [e]
theorem hB_eqA (e19 : V' 19 h = V 19 h) (e : ∀ q, V' 21 q = V 21 q) : hB V' h = hB V h := by
  unfold hB; rw [Bad_eqA e, gI_of e19]
theorem hst_pot (b1 : (gI V 31 h).toInt ≤ 4) (b2 : (gI V 32 h).toInt ≤ 24) (H : Hst V V' h) : Out V V' h ∧ hp V' h ≤ hp V h ∧ hD V' h = hD V h := by
  rcases H with e | ⟨nb, f, m19, m16, m17, m21⟩ | ⟨n3, f, m16, m17⟩
  · rw [e]; exact ⟨Out.rf, Nat.le_refl _, rfl⟩
  · have t : V' 0 0 = V 0 0 := f 0 0 (by omega) (by omega)
    have eD : hD V' h = hD V h := hD_eq t (f 15 h (by omega) (by omega))
    refine ⟨⟨t, fun g j q ne b => f j q (by unfold blk at b; omega) (by unfold blk at b; omega)⟩, ?_, eD⟩
    have eA : hA V' h = hA V h := hA_eq t (f 14 h (by omega) (by omega))
    have eM : hM V' h = hM V h := hM_eq (f 5 h (by omega) (by omega)) (f 7 h (by omega) (by omega))
    have eN : hN V' h ≤ 9 := by unfold hN; rw [m17, if_pos (by decide : (0 : Int) < 3)]; split <;> omega
    have eS : hS V' h = 0 := by unfold hS; rw [m16]; rfl
    have eB : hB V' h + 10 ≤ hB V h := by
      have z : hB V h = 10 * (2147483648 - (gI V 19 h).toInt).toNat := by unfold hB; rw [if_neg nb]
      have r := n_rng (gI V 19 h)
      by_cases bd : Bad V' h
      · have : hB V' h = 0 := by unfold hB; rw [if_pos bd]
        omega
      · have z' : hB V' h = 10 * (2147483648 - (gI V' 19 h).toInt).toNat := by unfold hB; rw [if_neg bd]
        rcases i32_suc (gI V 19 h) with ⟨a, b⟩ | ⟨a, b⟩
        · rw [z', z, m19, b]; omega
        · exact absurd (m21 (by rw [m19, b])) bd
    have eQ : hQ V' h = hQ V h := hQ_eq t (fun q _ _ => f 26 q (by omega) (by omega)) (fun q _ _ => f 27 q (by omega) (by omega))
    have eR : hR V' h = hR V h := hR_eq b1 t (f 31 h (by omega) (by omega)) (fun q _ _ => f 30 q (by omega) (by omega))
    have eE : hE V' h = hE V h := hE_eq b2 t (f 32 h (by omega) (by omega)) (fun j q _ _ _ _ => f j q (by omega) (by omega))
    unfold hp
    omega
  · have t : V' 0 0 = V 0 0 := f 0 0 (by omega)
    have eD : hD V' h = hD V h := hD_eq t (f 15 h (by omega))
    refine ⟨⟨t, fun g j q ne b => f j q (by unfold blk at b; omega)⟩, ?_, eD⟩
    have eA : hA V' h = hA V h := hA_eq t (f 14 h (by omega))
    have eM : hM V' h = hM V h := hM_eq (f 5 h (by omega)) (f 7 h (by omega))
    have eN : hN V' h ≤ 9 := by unfold hN; rw [m17, if_pos (by decide : (0 : Int) < 3)]; split <;> omega
    have eS : hS V' h = 0 := by unfold hS; rw [m16]; rfl
    have eS2 : hS V h = 10 := by unfold hS; rw [if_pos n3]
    have eB : hB V' h = hB V h := hB_eqA (f 19 h (by omega)) (fun q => f 21 q (by omega))
    have eQ : hQ V' h = hQ V h := hQ_eq t (fun q _ _ => f 26 q (by omega)) (fun q _ _ => f 27 q (by omega))
    have eR : hR V' h = hR V h := hR_eq b1 t (f 31 h (by omega)) (fun q _ _ => f 30 q (by omega))
    have eE : hE V' h = hE V h := hE_eq b2 t (f 32 h (by omega)) (fun j q _ _ _ _ => f j q (by omega))
    unfold hp
    omega
theorem isD_end {k : Nat} (e : (gL V 37 k).toInt ≤ (gL V 0 0).toInt) : isD V k := by
  by_cases c : ¬ (gI V 38 k).toInt = 0 ∨ (gI V 39 k).toInt = 4
  · exact ⟨_, Or.inl ⟨c, rfl⟩, e⟩
  · have c1 : (gI V 38 k).toInt = 0 := Classical.not_not.mp (fun z => c (Or.inl z))
    have c2 : ¬ (gI V 39 k).toInt = 4 := fun z => c (Or.inr z)
    by_cases l : (gL V 36 k + (gI V 35 k).toInt64 * (Int32.ofInt 80 + Int32.ofInt 5 * gI V 39 k).toInt64 / Int64.ofInt 100).toInt < (gL V 37 k).toInt
    · exact ⟨_, Or.inr ⟨c1, c2, _, rfl, Or.inl ⟨l, rfl⟩⟩, by omega⟩
    · exact ⟨_, Or.inr ⟨c1, c2, _, rfl, Or.inr ⟨by omega, rfl⟩⟩, e⟩
theorem old_pot {k : Nat} (TB : 0 ≤ (gL V 0 0).toInt ∧ (gL V 0 0).toInt ≤ 1000000000) (t : V' 0 0 = V 0 0) (E : EOld V V' k) : eW V' k ≤ eW V k := by
  obtain ⟨e35, e36, e39, c⟩ := E
  rcases c with ⟨c1, c2⟩ | ⟨c1, c2⟩
  · rw [eW_of (gL_of t) (gI_of e35) (gL_of e36) (gL_of c2) (gI_of c1) (gI_of e39)]; exact Nat.le_refl _
  · have g38 : gI V' 38 k = 1 := by unfold gI; rw [c1]; rfl
    have key : isD V' k → isD V k := by
      rintro ⟨d, hd, hl⟩
      have hd : d = gL V' 37 k := by
        rcases hd with ⟨_, e⟩ | ⟨e, _⟩
        · exact e
        · rw [g38] at e; exact absurd e (by decide)
      rw [gL_of t] at hl
      rcases c2 with c2 | ⟨c2, c3⟩
      · rw [gL_of c2] at hd
        exact isD_end (by rw [← hd]; exact hl)
      · exfalso
        have : gL V' 37 k = gL V 0 0 + Int64.ofInt 1000 := by unfold gL; rw [c3]; rfl
        rw [hd, this, lw_addc TB.1 TB.2 (by decide) (by decide)] at hl
        omega
    unfold eW
    rw [gI_of e39]
    by_cases a : isD V' k
    · rw [if_pos a, if_pos (key a)]; exact Nat.le_refl _
    · rw [if_neg a]; exact Nat.zero_le _
theorem fresh_pot {k : Nat} {life : Int32} (TB : 0 ≤ (gL V 0 0).toInt ∧ (gL V 0 0).toInt ≤ 1000000000) (E : EFresh V k life) : eW V k ≤ 45 ∧ (2 ≤ life.toInt → eW V k = 0) := by
  obtain ⟨e35, e36, e37, e38, e39⟩ := E
  have g35 : gI V 35 k = life := by unfold gI; rw [e35]; rfl
  have g36 : gL V 36 k = gL V 0 0 := by show toL (V 36 k) = _; rw [e36]; rfl
  have g37 : gL V 37 k = gL V 0 0 + life.toInt64 := by show toL (V 37 k) = _; rw [e37]; rfl
  have g38 : gI V 38 k = 0 := by unfold gI; rw [e38]; rfl
  have g39 : gI V 39 k = 0 := by unfold gI; rw [e39]; rfl
  constructor
  · unfold eW
    rw [g39]
    by_cases a : isD V k
    · rw [if_pos a]; decide
    · rw [if_neg a]; exact Nat.zero_le _
  · intro l2
    have r := n_rng life
    unfold eW
    rw [if_neg]
    rintro ⟨d, hd, hl⟩
    unfold eDue at hd
    rw [g35, g36, g37, g38, g39] at hd
    have q37 : (gL V 0 0 + life.toInt64).toInt = (gL V 0 0).toInt + life.toInt := by rw [lw_add (by rw [lw_i2l]; omega) (by rw [lw_i2l]; omega), lw_i2l]
    rcases hd with ⟨a | a, _⟩ | ⟨_, _, y, hy, c⟩
    · exact absurd rfl a
    · exact absurd a (by decide)
    · have e80 : (Int32.ofInt 80 + Int32.ofInt 5 * 0).toInt64.toInt = 80 := by decide
      have e100 : (Int64.ofInt 100).toInt = 100 := by decide
      have m : (life.toInt64 * (Int32.ofInt 80 + Int32.ofInt 5 * 0).toInt64).toInt = life.toInt * 80 := by
        rw [lw_mul (by rw [lw_i2l, e80]; omega) (by rw [lw_i2l, e80]; omega), lw_i2l, e80]
      have dv : (life.toInt64 * (Int32.ofInt 80 + Int32.ofInt 5 * 0).toInt64 / Int64.ofInt 100).toInt = life.toInt * 80 / 100 := by
        rw [lw_div (by rw [e100]; decide), m, e100, Int.tdiv_eq_ediv_of_nonneg (by omega)]
      have yv : y.toInt = (gL V 0 0).toInt + life.toInt * 80 / 100 := by
        rw [hy, lw_add (by rw [dv]; omega) (by rw [dv]; omega), dv]
      rcases c with ⟨_, c2⟩ | ⟨_, c2⟩
      · rw [c2] at hl; omega
      · rw [c2] at hl; omega
theorem sm_cut (f : Nat → Nat) {n m : Nat} (h : n ≤ m) : sm (fun i => if i < n then f i else 0) m = sm f n := by
  induction m with
  | zero => have : n = 0 := by omega
            subst this; rfl
  | succ m ih =>
    by_cases e : n = m + 1
    · subst e
      exact sm_eq _ fun i hi => if_pos hi
    · rw [sm_s, ih (by omega), if_neg (by omega)]; rfl
theorem rec_pot {life : Int32} (b1 : (gI V 31 h).toInt ≤ 4) (b2 : 0 ≤ (gI V 32 h).toInt) (TB : 0 ≤ (gL V 0 0).toInt ∧ (gL V 0 0).toInt ≤ 1000000000) (R : Rec2 V V' h life) : Out V V' h ∧ hD V' h = hD V h ∧ hp V' h ≤ hp V h + 45 ∧ (0 ≤ life.toInt → ¬ life.toInt = 1 → hp V' h ≤ hp V h) := by
  obtain ⟨f, f32, f35, n32, n24, k0, E⟩ := R
  have t : V' 0 0 = V 0 0 := f 0 0 (by omega)
  have TB' : 0 ≤ (gL V' 0 0).toInt ∧ (gL V' 0 0).toInt ≤ 1000000000 := by rw [gL_of t]; exact TB
  have eD : hD V' h = hD V h := hD_eq t (f 15 h (by omega))
  have eA : hA V' h = hA V h := hA_eq t (f 14 h (by omega))
  have eM : hM V' h = hM V h := hM_eq (f 5 h (by omega)) (f 7 h (by omega))
  have eN : hN V' h = hN V h := hN_eq t (f 17 h (by omega)) (f 18 h (by omega))
  have eS : hS V' h = hS V h := hS_eq (f 16 h (by omega))
  have eB : hB V' h = hB V h := hB_eqA (f 19 h (by omega)) (fun q => f 21 q (by omega))
  have eQ : hQ V' h = hQ V h := hQ_eq t (fun q _ _ => f 26 q (by omega)) (fun q _ _ => f 27 q (by omega))
  have eR : hR V' h = hR V h := hR_eq b1 t (f 31 h (by omega)) (fun q _ _ => f 30 q (by omega))
  have eE : ∀ c : Nat, (∀ k, EFresh V' k life → ¬ life.toInt = 0 → eW V' k ≤ c) → hE V' h ≤ hE V h + c := by
    intro c hc
    unfold hE
    rw [← sm_cut (fun i => eW V (24 * h + i)) (show (gI V 32 h).toInt.toNat ≤ (gI V' 32 h).toInt.toNat by omega)]
    refine sm_le1 (k := (k0 - 24 * (h : Int)).toNat) _ (fun i hi ne => ?_) (fun hi => ?_)
    · show eW V' (24 * h + i) ≤ if i < (gI V 32 h).toInt.toNat then eW V (24 * h + i) else 0
      rcases E (24 * h + i) (by omega) (by omega) with ⟨e1, e2⟩ | ⟨e1, _⟩
      · rw [if_pos (by omega)]; exact old_pot TB t e1
      · exact absurd (by omega) ne
    · show eW V' (24 * h + _) ≤ (if _ < (gI V 32 h).toInt.toNat then eW V (24 * h + _) else 0) + c
      rcases E (24 * h + (k0 - 24 * (h : Int)).toNat) (by omega) (by omega) with ⟨e1, e2⟩ | ⟨_, e1, e2⟩
      · rw [if_pos (by omega)]; have := old_pot TB t e1; omega
      · have := hc _ e1 e2; omega
  refine ⟨⟨t, fun g j q ne b => ?_⟩, eD, ?_, fun l0 l1 => ?_⟩
  · by_cases c : 35 ≤ j ∧ j ≤ 39
    · exact f35 j q c (by unfold blk at b; omega)
    · by_cases c2 : j = 32
      · subst c2; exact f32 q (by unfold blk at b; omega)
      · exact f j q (by unfold blk at b; omega)
  · have := eE 45 (fun k e _ => (fresh_pot TB' e).1)
    unfold hp
    omega
  · have := eE 0 (fun k e nz => by rw [(fresh_pot TB' e).2 (by omega)]; exact Nat.le_refl _)
    unfold hp
    omega
theorem recs_pot {h : Nat} : ∀ (m c : Nat) (V V' : Nat → Nat → Value), (gI V 31 h).toInt ≤ 4 → (0 ≤ (gI V 32 h).toInt ∧ (gI V 32 h).toInt ≤ 24) → (0 ≤ (gL V 0 0).toInt ∧ (gL V 0 0).toInt ≤ 1000000000) → RecsN h m c V V' → Out V V' h ∧ hD V' h = hD V h ∧ hp V' h ≤ hp V h + 45 * m ∧ (m = 1 → 0 ≤ (gI V 66 c).toInt → ¬ (gI V 66 c).toInt = 1 → hp V' h ≤ hp V h) := by
  intro m
  induction m with
  | zero => intro c V V' _ _ _ e; have e : V' = V := e; rw [e]; exact ⟨Out.rf, rfl, by omega, fun z => by omega⟩
  | succ m ih =>
    intro c V V' b1 b2 TB R
    obtain ⟨Vm, V1, H, R2, R3⟩ := R
    obtain ⟨o1, p1, d1⟩ := hst_pot b1 b2.2 H
    have f : ∀ j, j = 31 ∨ j = 32 → Vm j h = V j h := fun j hj => by
      rcases H with e | ⟨-, f, -⟩ | ⟨-, f, -⟩
      · rw [e]
      · exact f j h (by omega) (by omega)
      · exact f j h (by omega)
    have TB1 : 0 ≤ (gL Vm 0 0).toInt ∧ (gL Vm 0 0).toInt ≤ 1000000000 := by rw [gL_of o1.1]; exact TB
    obtain ⟨o2, d2, p2, p3⟩ := rec_pot (by rw [gI_of (f 31 (by omega))]; exact b1) (by rw [gI_of (f 32 (by omega))]; exact b2.1) TB1 R2
    have TB2 : 0 ≤ (gL V1 0 0).toInt ∧ (gL V1 0 0).toInt ≤ 1000000000 := by rw [gL_of o2.1]; exact TB1
    obtain ⟨o3, d3, p4, _⟩ := ih (c + 1) V1 V' (by rw [gI_of (R2.1 31 h (by omega)), gI_of (f 31 (by omega))]; exact b1) R2.2.2.2.2.1 TB2 R3
    refine ⟨(o1.tr o2).tr o3, by rw [d3, d2, d1], by omega, fun m1 l0 l1 => ?_⟩
    have m0 : m = 0 := by omega
    subst m0
    have e : V' = V1 := R3
    rw [e]
    have := p3 l0 l1
    omega
theorem Ty1.of (ty : Ty1 V h) (f : ∀ j q, (j = 5 ∨ j = 21 ∨ j = 31 ∨ j = 32) → V' j q = V j q) : Ty1 V' h := by
  obtain ⟨b1, b2, b3, b4⟩ := ty
  refine ⟨?_, ?_, ?_, ?_⟩
  · rw [gI_of (f 31 h (by omega))]; exact b1
  · rw [gI_of (f 32 h (by omega))]; exact b2
  · rw [gI_of (f 21 _ (by omega))]; exact b3
  · rw [gI_of (f 5 h (by omega))]; exact b4
/-- a host's step, then one packet -/
theorem snd_pot {p : Nat} (hh : h < 8) (ty : ∀ g, g < 8 → Ty1 V g) (ty1 : Ty1 V1 h) (o : Out V V1 h) (fr : V1 46 0 = V 46 0 ∧ V1 47 0 = V 47 0 ∧ ∀ q, V1 42 q = V 42 q) (HA : 0 ≤ (gI V 46 0).toInt ∧ (gI V 46 0).toInt < 800) (HM : 0 ≤ (gI V 47 0).toInt ∧ (gI V 47 0).toInt < 800) (F : FrS V1 V') (S : Snd V1 V' p) : Out V V' h ∧ P1 V' + hp V h = P1 V + hp V1 h + p ∧ P2 V' + hD V h = P2 V + hD V1 h + w2 p := by
  have o2 : Out V V' h := o.tr F.out
  obtain ⟨e1, e2⟩ := P_out hh ty o2
  obtain ⟨e3, e4⟩ := hp_eq ty1 (F 0 0 (by decide)) (fun j q b => F.low b)
  have r1 : ∀ w, rg w V1 = rg w V := fun w => rg_fr fr.1 fr.2.1 fr.2.2
  have r2 : ∀ w, rg w V' = rg w V1 + w p := fun w => rg_snd S (by rw [gI_of fr.1]; exact HA) (by rw [gI_of fr.2.1]; exact HM)
  refine ⟨o2, ?_, ?_⟩
  · unfold P1; rw [r2, r1]; omega
  · unfold P2; rw [r2, r1]; omega
/-- a host's step without a packet -/
theorem stp_pot (hh : h < 8) (ty : ∀ g, g < 8 → Ty1 V g) (o : Out V V' h) (fr : V' 46 0 = V 46 0 ∧ V' 47 0 = V 47 0 ∧ ∀ q, V' 42 q = V 42 q) : P1 V' + hp V h = P1 V + hp V' h ∧ P2 V' + hD V h = P2 V + hD V' h := by
  obtain ⟨e1, e2⟩ := P_out hh ty o
  have r1 : ∀ w, rg w V' = rg w V := fun w => rg_fr fr.1 fr.2.1 fr.2.2
  refine ⟨?_, ?_⟩
  · unfold P1; rw [r1]; omega
  · unfold P2; rw [r1]; omega
def TkP (V V' : Nat → Nat → Value) (kd nn : Int) : Prop :=
  (P1 V' ≤ P1 V ∧ P2 V' ≤ P2 V) ∨ (¬ gI V 60 0 = 0 ∧ ((kd = 1 ∨ kd = 3 ∨ kd = 4) ∧ P1 V' ≤ P1 V + 1 ∧ P2 V' ≤ P2 V + 1 ∨ kd = 5 ∧ 1 ≤ nn ∧ ¬ (nn = 1 ∧ 0 ≤ (gI V 66 0).toInt ∧ ¬ (gI V 66 0).toInt = 1) ∧ P1 V' ≤ P1 V + 360 ∧ P2 V' ≤ P2 V))
end
