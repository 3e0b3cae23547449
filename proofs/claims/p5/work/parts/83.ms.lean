theorem fty_w {k i : Nat} (h14 : ¬ k < 14) (hw : wrow k = true) : fty k (16 * i) = aI 0 15 := by
  unfold fty
  rw [if_neg h14, if_pos (by rw [hw]; simp)]
section
variable {Z : Nat → Prop} {t : Nat} {A : Nat → Nat} {σ : ps}
theorem WT.ty1 (W : WT Z t A σ) : ∀ g, g < 8 → Ty1 (vw t A σ) g := by
  intro g hg
  have a := (W.ri (j := 31) (i := g) (by decide) (by decide) (by show (g : Int) < 8; omega)).2
  have b := (W.ri (j := 32) (i := g) (by decide) (by decide) (by show (g : Int) < 8; omega)).2
  have c := (W.ri (j := 21) (i := 16 * g) (by decide) (by decide) (by show ((16 * g : Nat) : Int) < 128; omega)).2
  have d := (W.ri (j := 5) (i := g) (by decide) (by decide) (by show (g : Int) < 8; omega)).2
  rw [show fty (40 + 21) (16 * g) = aI 0 15 from fty_w (by decide) (by decide)] at c
  exact ⟨a, b, c.2, d⟩
theorem WT.tyV (W : WT Z t A σ) : TyV (vw t A σ) := by
  refine ⟨fun g hg => (W.ty1 g hg).1, fun g hg => (W.ty1 g hg).2.1, fun q hq => ?_⟩
  exact (W.ri (j := 38) (i := q) (by decide) (by decide) (by show (q : Int) < 192; omega)).2
theorem WT.wait (W : WT Z t A σ) : ∀ q, q < 32 → 0 ≤ (gI (vw t A σ) 28 q).toInt := fun q hq => (W.ri (j := 28) (i := q) (by decide) (by decide) (by show (q : Int) < 32; omega)).2.1
theorem WT.at (W : WT Z t A σ) : 0 ≤ (gI (vw t A σ) 46 0).toInt ∧ (gI (vw t A σ) 46 0).toInt < 800 := by
  have h : (0 : Int) ≤ (gI (vw t A σ) 46 0).toInt ∧ (gI (vw t A σ) 46 0).toInt ≤ 799 := (W.fi (j := 46) (i := 0) (by decide)).2
  omega
theorem WT.many (W : WT Z t A σ) : 0 ≤ (gI (vw t A σ) 47 0).toInt ∧ (gI (vw t A σ) 47 0).toInt ≤ 1001 := (W.fi (j := 47) (i := 0) (by decide)).2
theorem WT.size (W : WT Z t A σ) : 0 ≤ (gI (vw t A σ) 58 0).toInt ∧ (gI (vw t A σ) 58 0).toInt ≤ 200 := (W.fi (j := 58) (i := 0) (by decide)).2
theorem WT.pb (W : WT Z t A σ) : PB (vw t A σ) := ⟨fun q hq => (W.ri (j := 57) (i := q) (by decide) (by decide) (by show (q : Int) < 200; omega)).2, W.size.2⟩
theorem P2_many {V : Nat → Nat → Value} (h0 : 0 ≤ (gI V 47 0).toInt) : (gI V 47 0).toInt ≤ (P2 V : Int) := by
  have := rg_many V
  unfold P2
  omega
/-- what the weight of a packet grants a hearer -/
def cst (p : Nat) : Nat := if p = 8 then 1 else if p = 2521 then 360 else 0
def cs2 (p : Nat) : Nat := if p = 8 then 1 else 0
def Pkt (V : Nat → Nat → Value) (p : Nat) : Prop := ∃ b0 b1 b7 : Int, p = pkc b0 b1 b7 ∧ (1 ≤ (gI V 58 0).toInt → (gI V 57 0).toInt = b0) ∧ (8 ≤ (gI V 58 0).toInt → (gI V 57 1).toInt = b1 ∧ (gI V 57 7).toInt = b7)
theorem P_same {V V' : Nat → Nat → Value} (ty : ∀ g, g < 8 → Ty1 V g) (f : ∀ j q, ((j < 42 ∧ ¬ j = 9) ∨ j = 42 ∨ j = 46 ∨ j = 47) → V' j q = V j q) : P1 V' = P1 V ∧ P2 V' = P2 V := by
  have e := fun i hi => hp_eq (V' := V') (ty i hi) (f 0 0 (by omega)) (fun j q b => f j q (by unfold blk at b; omega))
  have r : ∀ w, rg w V' = rg w V := fun w => rg_fr (f 46 0 (by omega)) (f 47 0 (by omega)) (fun q => f 42 q (by omega))
  unfold P1 P2
  rw [r, r, sm_eq 8 (fun i hi => (e i hi).1), sm_eq 8 (fun i hi => (e i hi).2)]
  exact ⟨rfl, rfl⟩
def MsI (V : Nat → Nat → Value) : Prop := (0 ≤ (gL V 0 0).toInt ∧ (gL V 0 0).toInt ≤ 1000000000) ∧ QW V ∧ EA V
theorem ent_tk (W : WT Z t A σ) {h : Int32} (hh : 0 ≤ h.toInt ∧ h.toInt ≤ 7) (hm : (gI (vw t A σ) 47 0).toInt ≤ 1000) : EntOK tC430 Z σ [.ref t, .int h, .int (gI (vw t A σ) 47 0)] := by
  have m := W.many
  have e47 : sV σ t 47 = .int (gI (vw t A σ) 47 0) := by
    rw [← (W.fi (j := 47) (i := 0) (by decide)).1]
    unfold vw
    rw [show isRw 47 = false from rfl, if_neg (by decide)]
  refine ⟨rfl, fun i t' v h1 h2 => ?_, fun c hc => ?_, fun i t' h1 h4 => ?_⟩
  · have hi : i < 3 := (List.getElem?_eq_some_iff.mp h2).1
    match i, hi, h1, h2 with
    | 0, _, h1, h2 => cases h1; cases h2; exact Or.inr (Or.inr (Or.inl ⟨rfl, t, rfl, W.2.2.1, W.2.2.2.1⟩))
    | 1, _, h1, h2 => cases h1; cases h2; exact okA.mkI (lo := 0) (hi := 7) hh.1 hh.2
    | 2, _, h1, h2 => cases h1; cases h2; exact okA.wide m.1 hm
  · have hc : c ∈ [(0, 0, 47, 2)] := hc
    rw [List.mem_singleton] at hc
    subst hc
    exact Or.inr ⟨t, rfl, Or.inl ⟨rfl, e47⟩⟩
  · have hi : i < 3 := (List.getElem?_eq_some_iff.mp h1).1
    match i, hi, h1 with
    | 0, _, h1 => cases h1; cases h4
    | 1, _, h1 => cases h1; cases h4
    | 2, _, h1 => cases h1; cases h4
/-- takes, as millisecond and give need it -/
theorem ms_takes (W : WT Z t A σ) {h : Int32} {p : Nat} (hh : 0 ≤ h.toInt ∧ h.toInt ≤ 7) (I : MsI (vw t A σ)) (hP : P2 (vw t A σ) ≤ 799) (pk : Pkt (vw t A σ) p) : wp 172 0 (lv_args 0 [.ref t, .int h]) [] σ (fun r σ' => ∃ (w : Int32) (Z' : Nat → Prop), r = some (.int w) ∧ (0 ≤ w.toInt ∧ w.toInt ≤ 1) ∧ WT Z' t A σ' ∧ (∀ a, Z a → Z' a) ∧ SP t A σ σ' ∧ (∀ j q, kept j → vw t A σ' j q = vw t A σ j q) ∧ MsI (vw t A σ') ∧ P1 (vw t A σ') ≤ P1 (vw t A σ) + cst p ∧ P2 (vw t A σ') ≤ P2 (vw t A σ) + cs2 p) := by
  have m := W.many
  have mP := P2_many m.1
  have ty := W.ty1
  have hn : (h.toNatClampNeg : Int) = h.toInt := n_clamp hh.1
  obtain ⟨n, r, σ', run, post⟩ := tk_ok (vs := [.ref t, .int h, .int (gI (vw t A σ) 47 0)]) W.1 W.2.1 (ent_tk W hh (by omega)) W.2.2.2.2.2.2
  have hw := (W.ri (j := 20) (i := 16 * h.toNatClampNeg) (by decide) (by decide) (by show ((16 * h.toNatClampNeg : Nat) : Int) < 128; omega)).2
  rw [show fty (40 + 20) (16 * h.toNatClampNeg) = aI 0 15 from fty_w (by decide) (by decide)] at hw
  have hS := (W.ri (j := 16) (i := h.toNatClampNeg) (by decide) (by decide) (by show ((h.toNatClampNeg : Nat) : Int) < 8; omega)).2.2
  obtain ⟨w, ew, S, Vp, kd, nn, a, fp, tk, ha, hg⟩ := pc_takes W.W run hh W.at ⟨m.1, by omega⟩ (ty _ (by omega)).1 hw hS (ty _ (by omega)).2.1 W.pb
  have ew : r = some (.int w) := ew
  have S : SP t A σ σ' := S
  have tk : TkE Vp (vw t A σ') h.toNatClampNeg kd nn a := tk
  obtain ⟨Z', T', L', R', _, alt, hal, ao⟩ := post
  have W' : WT Z' t A σ' := W.st S T' R'.2.1
  have wr : 0 ≤ w.toInt ∧ w.toInt ≤ 1 := by
    have hal : alt ∈ cAlt tC430 := hal
    rw [show cAlt tC430 = [([(2,13,0,0,0),(0,0,7,0,7),(0,0,1000,0,15)],[(0,0,1,0,1)],[])] from rfl, List.mem_singleton] at hal
    subst hal
    rcases ao.2.2.1 with ⟨q, _⟩ | ⟨t2, v, q, er, ov⟩
    · cases q
    · cases q
      obtain ⟨x, ex, h1, h2, _⟩ := ov.i rfl
      rw [er, ex] at ew
      cases ew
      exact ⟨h1, h2⟩
  -- the view behind the reading
  have fI : ∀ j q, ¬ (59 ≤ j ∧ j ≤ 67) → gI Vp j q = gI (vw t A σ) j q := fun j q hj => gI_of (fp j q hj)
  have typ : ∀ g, g < 8 → Ty1 Vp g := fun g hg => (ty g hg).of fun j q hj => fp j q (by omega)
  have tT : Vp 0 0 = vw t A σ 0 0 := fp 0 0 (by omega)
  have TB : 0 ≤ (gL Vp 0 0).toInt ∧ (gL Vp 0 0).toInt ≤ 1000000000 := by rw [gL_of tT]; exact I.1
  have Qp : QW Vp := I.2.1.of fun q => ⟨fp 26 q (by omega), fp 28 q (by omega)⟩
  have Ep : EA Vp := I.2.2.of fun q => ⟨fp 32 q (by omega), fp 39 q (by omega)⟩
  obtain ⟨e1, e2⟩ := P_same (V' := Vp) ty (fun j q hj => fp j q (by omega))
  have tp := tk_pot (V := Vp) (h := h.toNatClampNeg) (by omega) typ TB (by rw [fI 46 0 (by omega)]; exact W.at) (by rw [fI 47 0 (by omega)]; omega) (fun q hq => by rw [fI 28 q (by omega)]; exact W.wait q hq) tk ha (fun g k5 => ((hg g).2.2 k5).2.1)
  obtain ⟨q', ea'⟩ := tk_inv Qp Ep (fun g hg => (typ g hg).2.1) tk
  have fk := tk_fr tk
  refine ⟨n, r, σ', run, w, Z', ew, wr, W', R'.2.1, S, fun j q hj => (fk j q hj).trans (fp j q (by unfold kept at hj; omega)), ⟨?_, q', ea'⟩, ?_⟩
  · rw [gL_of (fk 0 0 (by unfold kept; omega))]; exact TB
  obtain ⟨b0, b1, b7, ep, k0, k8⟩ := pk
  unfold TkP at tp
  rw [e1, e2] at tp
  rcases tp with ⟨a1, a2⟩ | ⟨g, ⟨k, a1, a2⟩ | ⟨k, n1, nt, a1, a2⟩⟩
  · omega
  · obtain ⟨g1, g2, _⟩ := hg g
    have := k0 g2
    have e8 : p = 8 := by
      rw [ep]
      unfold pkc
      rw [if_pos (by omega)]
    subst e8
    exact ⟨a1, a2⟩
  · obtain ⟨g1, g2, g3⟩ := hg g
    obtain ⟨g4, g5, g6⟩ := g3 k
    obtain ⟨⟨v, lf⟩, l0, l8⟩ := g6 n1
    rw [fI 58 0 (by omega)] at l8
    have z0 := k0 g2
    obtain ⟨z1, z7⟩ := k8 l8
    have r7 := W.pb.1 7 (by decide)
    have e8 : p = 2521 := by
      rw [ep]
      unfold pkc
      rw [if_neg (by omega), if_pos]
      refine ⟨by omega, fun c => nt ⟨by omega, l0, fun l1 => c.2 ?_⟩⟩
      rw [lf, fI 57 7 (by omega)] at l1
      have := or_low r7.1 r7.2 l1
      omega
    subst e8
    exact ⟨a1, by omega⟩
theorem ent_ac (W : WT Z t A σ) (hm : (gI (vw t A σ) 47 0).toInt ≤ 1000) : EntOK tC273 Z σ [.ref t, .int (gI (vw t A σ) 47 0)] := by
  have m := W.many
  have e47 : sV σ t 47 = .int (gI (vw t A σ) 47 0) := by
    rw [← (W.fi (j := 47) (i := 0) (by decide)).1]
    unfold vw
    rw [show isRw 47 = false from rfl, if_neg (by decide)]
  refine ⟨rfl, fun i t' v h1 h2 => ?_, fun c hc => ?_, fun i t' h1 h4 => ?_⟩
  · have hi : i < 2 := (List.getElem?_eq_some_iff.mp h2).1
    match i, hi, h1, h2 with
    | 0, _, h1, h2 => cases h1; cases h2; exact Or.inr (Or.inr (Or.inl ⟨rfl, t, rfl, W.2.2.1, W.2.2.2.1⟩))
    | 1, _, h1, h2 => cases h1; cases h2; exact okA.wide m.1 hm
  · have hc : c ∈ [(0, 0, 47, 1)] := hc
    rw [List.mem_singleton] at hc
    subst hc
    exact Or.inr ⟨t, rfl, Or.inl ⟨rfl, e47⟩⟩
  · have hi : i < 2 := (List.getElem?_eq_some_iff.mp h1).1
    match i, hi, h1 with
    | 0, _, h1 => cases h1; cases h4
    | 1, _, h1 => cases h1; cases h4
theorem ms_acts (W : WT Z t A σ) (I : MsI (vw t A σ)) (hP : P2 (vw t A σ) ≤ 799) : wp 164 0 (lv_args 0 [.ref t]) [] σ (fun r σ' => (r = some (.int 0) ∧ σ' = σ) ∨ ∃ (Z' : Nat → Prop), r = some (.int 1) ∧ WT Z' t A σ' ∧ (∀ a, Z a → Z' a) ∧ SP t A σ σ' ∧ (∀ j q, kept j → vw t A σ' j q = vw t A σ j q) ∧ MsI (vw t A σ') ∧ P1 (vw t A σ') + 1 ≤ P1 (vw t A σ) ∧ P2 (vw t A σ') ≤ P2 (vw t A σ) + 9) := by
  have m := W.many
  have mP := P2_many m.1
  obtain ⟨n, r, σ', run, post⟩ := tV273 Z σ [.ref t, .int (gI (vw t A σ) 47 0)] W.1 W.2.1 (ent_ac W (by omega)) (fun h => absurd rfl h)
  have run : prun n 164 0 (lv_args 0 [.ref t]) [] σ = some (r, σ') := run
  refine ⟨n, r, σ', run, ?_⟩
  rcases pc_acts W.W run W.at ⟨m.1, by omega⟩ W.tyV with ⟨e1, e2⟩ | ⟨e1, S, a⟩
  · exact Or.inl ⟨e1, e2⟩
  · obtain ⟨Z', T', L', R', _⟩ := post
    obtain ⟨⟨p1, p2⟩, q', e', f⟩ := act_pot W.ty1 I.1 W.at ⟨m.1, by omega⟩ I.2.1 I.2.2 a
    refine Or.inr ⟨Z', e1, W.st S T' R'.2.1, R'.2.1, S, f, ⟨?_, q', e'⟩, p1, p2⟩
    rw [gL_of (f 0 0 (by unfold kept; omega))]
    exact I.1
end
