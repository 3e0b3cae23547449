section
variable {V V' V1 : Nat → Nat → Value} {h : Nat}
theorem FrS.rng (F : FrS V V') (j q : Nat) (hj : j < 42 ∨ 57 ≤ j) : V' j q = V j q := F j q (by omega)
set_option maxHeartbeats 2000000 in
theorem tk_pot {kd nn a : Int} (hh : h < 8) (ty : ∀ g, g < 8 → Ty1 V g) (TB : 0 ≤ (gL V 0 0).toInt ∧ (gL V 0 0).toInt ≤ 1000000000) (HA : 0 ≤ (gI V 46 0).toInt ∧ (gI V 46 0).toInt < 800) (HM : 0 ≤ (gI V 47 0).toInt ∧ (gI V 47 0).toInt < 800) (wt : ∀ q, q < 32 → 0 ≤ (gI V 28 q).toInt) (tk : TkE V V' h kd nn a) (ha : 0 ≤ a) (hn : ¬ gI V 60 0 = 0 → kd = 5 → nn ≤ 8) : TkP V V' kd nn := by
  have tyh := ty h hh
  have frS : ∀ p, FrS V V' → Snd V V' p → P1 V' = P1 V + p ∧ P2 V' = P2 V + w2 p := by
    intro p F S
    obtain ⟨_, a1, a2⟩ := snd_pot hh ty tyh Out.rf ⟨rfl, rfl, fun _ => rfl⟩ HA HM F S
    omega
  have w21 : w2 1 = 1 := rfl
  have mv : a = adr V h → Mov V V' h → P1 V' ≤ P1 V ∧ P2 V' ≤ P2 V := by
    intro e m
    obtain ⟨o, p1, p2⟩ := mov_pot tyh TB m (by omega)
    obtain ⟨q1, q2⟩ := stp_pot hh ty o ⟨m.1 46 0 (by omega), m.1 47 0 (by omega), fun q => m.1 42 q (by omega)⟩
    omega
  rcases tk with ⟨u, e⟩ | ⟨g, ⟨k, c⟩ | ⟨k, c⟩ | ⟨k, c⟩ | ⟨k, V1, Q, c⟩ | ⟨k, c⟩ | ⟨k, c⟩⟩
  · left
    have f : ∀ j q, ¬ j = 11 → V' j q = V j q := fun j q hj => by rw [e, up_ne hj]
    have o : Out V V' h := ⟨f 0 0 (by omega), fun g j q _ b => f j q (by unfold blk at b; omega)⟩
    obtain ⟨e3, e4⟩ := hp_eq tyh (f 0 0 (by omega)) (fun j q b => f j q (by unfold blk at b; omega))
    obtain ⟨q1, q2⟩ := stp_pot hh ty o ⟨f 46 0 (by omega), f 47 0 (by omega), fun q => f 42 q (by omega)⟩
    omega
  · rcases c with e | ⟨F, S⟩ | ⟨e, m⟩
    · left; rw [e]; exact ⟨Nat.le_refl _, Nat.le_refl _⟩
    · right
      have := frS 1 F S
      exact ⟨g, Or.inl ⟨Or.inl k, by omega, by omega⟩⟩
    · exact Or.inl (mv e m)
  · left
    rcases c with e | ⟨m, V1, e, F, S⟩ | ⟨e, m⟩
    · rw [e]; exact ⟨Nat.le_refl _, Nat.le_refl _⟩
    · obtain ⟨o, p1, p2⟩ := def_pot tyh TB m e
      have f : ∀ j q, ¬ j = 15 → V1 j q = V j q := fun j q hj => by rw [e, up_ne hj]
      obtain ⟨_, q1, q2⟩ := snd_pot hh ty (tyh.of fun j q hj => f j q (by omega)) o ⟨f 46 0 (by omega), f 47 0 (by omega), fun q => f 42 q (by omega)⟩ HA HM F S
      omega
    · exact mv e m
  · rcases c with e | ⟨F, S⟩ | e
    · left; rw [e]; exact ⟨Nat.le_refl _, Nat.le_refl _⟩
    · right
      have := frS 1 F S
      exact ⟨g, Or.inl ⟨Or.inr (Or.inl k), by omega, by omega⟩⟩
    · left
      obtain ⟨o, p1, p2⟩ := np_pot tyh TB e
      have f : ∀ j q, ¬ j = 17 → ¬ j = 18 → V' j q = V j q := fun j q h1 h2 => by rw [e, up_ne h2, up_ne h1]
      obtain ⟨q1, q2⟩ := stp_pot hh ty o ⟨f 46 0 (by omega) (by omega), f 47 0 (by omega) (by omega), fun q => f 42 q (by omega) (by omega)⟩
      omega
  · right
    obtain ⟨o, p1, p2⟩ := q_pot tyh TB (fun q a b => wt q (by omega)) Q
    have f : ∀ j q, ¬ j = 27 → ¬ j = 28 → ¬ j = 10 → V1 j q = V j q := fun j q h1 h2 h3 => Q.1 j q (by omega) (by omega)
    have ty1 : Ty1 V1 h := tyh.of fun j q hj => f j q (by omega) (by omega) (by omega)
    have fr : V1 46 0 = V 46 0 ∧ V1 47 0 = V 47 0 ∧ ∀ q, V1 42 q = V 42 q := ⟨f 46 0 (by omega) (by omega) (by omega), f 47 0 (by omega) (by omega) (by omega), fun q => f 42 q (by omega) (by omega) (by omega)⟩
    refine ⟨g, Or.inl ⟨Or.inr (Or.inr k), ?_⟩⟩
    rcases c with e | ⟨F, S⟩ | R
    · rw [e]
      obtain ⟨q1, q2⟩ := stp_pot hh ty o fr
      omega
    · obtain ⟨_, q1, q2⟩ := snd_pot hh ty ty1 o fr HA HM F S
      omega
    · obtain ⟨o2, r1, r2⟩ := rpl_pot ty1 (by rw [gL_of o.1]; exact TB) R
      have f2 := R.1
      obtain ⟨q1, q2⟩ := stp_pot hh ty (o.tr o2) ⟨(f2 46 0 (by omega) (by omega) (by omega)).trans fr.1, (f2 47 0 (by omega) (by omega) (by omega)).trans fr.2.1, fun q => (f2 42 q (by omega) (by omega) (by omega)).trans (fr.2.2 q)⟩
      omega
  · obtain ⟨b1, b2, _, _⟩ := tyh
    have n8 := hn g k
    obtain ⟨o, d, p1, p2⟩ := recs_pot nn.toNat 0 V V' b1.2 b2 TB c
    have fr : ∀ (m c : Nat) (V V' : Nat → Nat → Value), RecsN h m c V V' → ∀ j q, (j = 42 ∨ j = 46 ∨ j = 47) → V' j q = V j q := by
      intro m
      induction m with
      | zero => intro c V V' e j q _; have e : V' = V := e; rw [e]
      | succ m ih =>
        intro c V V' ⟨Vm, V1, H, R2, R3⟩ j q hj
        rw [ih _ _ _ R3 j q hj, R2.1 j q (by omega)]
        rcases H with e | ⟨-, f, -⟩ | ⟨-, f, -⟩
        · rw [e]
        · exact f j q (by omega) (by omega)
        · exact f j q (by omega)
    have f := fr _ _ _ _ c
    obtain ⟨q1, q2⟩ := stp_pot hh ty o ⟨f 46 0 (by omega), f 47 0 (by omega), fun q => f 42 q (by omega)⟩
    by_cases n1 : 1 ≤ nn
    · by_cases tm : nn = 1 ∧ 0 ≤ (gI V 66 0).toInt ∧ ¬ (gI V 66 0).toInt = 1
      · left
        have := p2 (by omega) tm.2.1 tm.2.2
        omega
      · right
        refine ⟨g, Or.inr ⟨k, n1, tm, ?_, ?_⟩⟩
        · omega
        · omega
    · left
      have : nn.toNat = 0 := by omega
      rw [this] at p1
      omega
  · left; rw [c]; exact ⟨Nat.le_refl _, Nat.le_refl _⟩
/-- what takes leaves -/
def kept (j : Nat) : Prop := j = 0 ∨ j = 1 ∨ j = 2 ∨ j = 3 ∨ j = 4 ∨ j = 5 ∨ j = 6 ∨ j = 9 ∨ j = 20 ∨ j = 22 ∨ j = 23 ∨ j = 24 ∨ j = 25 ∨ j = 26 ∨ j = 46 ∨ j = 57 ∨ j = 58
theorem recs_fr {h : Nat} : ∀ (m c : Nat) (V V' : Nat → Nat → Value), RecsN h m c V V' → ∀ j q, (kept j ∨ j = 27 ∨ j = 28 ∨ j = 47 ∨ j = 42) → V' j q = V j q := by
  intro m
  induction m with
  | zero => intro c V V' e j q _; have e : V' = V := e; rw [e]
  | succ m ih =>
    intro c V V' ⟨Vm, V1, H, R2, R3⟩ j q hj
    rw [ih _ _ _ R3 j q hj, R2.1 j q (by unfold kept at hj; omega)]
    rcases H with e | ⟨-, f, -⟩ | ⟨-, f, -⟩
    · rw [e]
    · exact f j q (by unfold kept at hj; omega) (by unfold kept at hj; omega)
    · exact f j q (by unfold kept at hj; omega)
set_option maxHeartbeats 2000000 in
theorem tk_fr {kd nn a : Int} (tk : TkE V V' h kd nn a) : ∀ j q, kept j → V' j q = V j q := by
  intro j q hj
  rcases tk with ⟨u, e⟩ | ⟨-, ⟨-, c⟩ | ⟨-, c⟩ | ⟨-, c⟩ | ⟨-, V1, Q, c⟩ | ⟨-, c⟩ | ⟨-, c⟩⟩
  · rw [e, up_ne (by unfold kept at hj; omega)]
  · rcases c with e | ⟨F, -⟩ | ⟨-, m, -⟩
    · rw [e]
    · exact F j q (by unfold kept at hj; omega)
    · exact m j q (by unfold kept at hj; omega)
  · rcases c with e | ⟨-, V1, e, F, -⟩ | ⟨-, m, -⟩
    · rw [e]
    · rw [F j q (by unfold kept at hj; omega), e, up_ne (by unfold kept at hj; omega)]
    · exact m j q (by unfold kept at hj; omega)
  · rcases c with e | ⟨F, -⟩ | e
    · rw [e]
    · exact F j q (by unfold kept at hj; omega)
    · rw [e, up_ne (by unfold kept at hj; omega), up_ne (by unfold kept at hj; omega)]
  · have q1 := Q.1 j q (by unfold kept at hj; omega) (by unfold kept at hj; omega)
    rcases c with e | ⟨F, -⟩ | ⟨f, -⟩
    · rw [e, q1]
    · rw [F j q (by unfold kept at hj; omega), q1]
    · rw [f j q (by unfold kept at hj; omega) (by unfold kept at hj; omega) (by unfold kept at hj; omega), q1]
  · exact recs_fr _ _ _ _ c j q (Or.inl hj)
  · rw [c]
/-- a question's wait; an entry's asks -/
def QW (V : Nat → Nat → Value) : Prop := ∀ q : Nat, q < 32 → 0 < (gI V 26 q).toInt → 1000 ≤ (gI V 28 q).toInt
def EA (V : Nat → Nat → Value) : Prop := ∀ h k : Nat, h < 8 → 24 * h ≤ k → (k : Int) < 24 * (h : Int) + (gI V 32 h).toInt → 0 ≤ (gI V 39 k).toInt ∧ (gI V 39 k).toInt ≤ 4
theorem QW.of (w : QW V) (f : ∀ q, V' 26 q = V 26 q ∧ V' 28 q = V 28 q) : QW V' := fun q hq s => by
  rw [gI_of (f q).1] at s
  rw [gI_of (f q).2]
  exact w q hq s
theorem EA.of (w : EA V) (f : ∀ q, V' 32 q = V 32 q ∧ V' 39 q = V 39 q) : EA V' := fun h k h8 k1 k2 => by
  rw [gI_of (f h).1] at k2
  rw [gI_of (f k).2]
  exact w h k h8 k1 k2
theorem rec_ea {life : Int32} (w : EA V) (ty : ∀ g, g < 8 → 0 ≤ (gI V 32 g).toInt ∧ (gI V 32 g).toInt ≤ 24) (R : Rec2 V V' h life) : EA V' := by
  obtain ⟨f, f32, f35, n32, n24, k0, E⟩ := R
  intro g k g8 k1 k2
  by_cases e : g = h
  · subst e
    rcases E k k1 k2 with ⟨⟨_, _, e39, _⟩, l⟩ | ⟨_, ⟨_, _, _, _, e39⟩, _⟩
    · rw [gI_of e39]; exact w g k g8 k1 l
    · have : gI V' 39 k = 0 := by unfold gI; rw [e39]; rfl
      rw [this]; decide
  · rw [gI_of (f32 g e)] at k2
    have := (ty g g8).2
    rw [gI_of (f35 39 k (by omega) (by omega))]
    exact w g k g8 k1 k2
theorem recs_ea {h : Nat} : ∀ (m c : Nat) (V V' : Nat → Nat → Value), EA V → (∀ g, g < 8 → 0 ≤ (gI V 32 g).toInt ∧ (gI V 32 g).toInt ≤ 24) → RecsN h m c V V' → EA V' := by
  intro m
  induction m with
  | zero => intro c V V' w _ e; have e : V' = V := e; rw [e]; exact w
  | succ m ih =>
    intro c V V' w ty ⟨Vm, V1, H, R2, R3⟩
    have f : ∀ j q, j = 32 ∨ j = 39 → Vm j q = V j q := fun j q hj => by
      rcases H with e | ⟨-, f, -⟩ | ⟨-, f, -⟩
      · rw [e]
      · exact f j q (by omega) (by omega)
      · exact f j q (by omega)
    have ty1 : ∀ g, g < 8 → 0 ≤ (gI Vm 32 g).toInt ∧ (gI Vm 32 g).toInt ≤ 24 := fun g hg => by rw [gI_of (f 32 g (by omega))]; exact ty g hg
    have w1 : EA Vm := w.of fun q => ⟨f 32 q (by omega), f 39 q (by omega)⟩
    refine ih _ _ _ (rec_ea w1 ty1 R2) (fun g hg => ?_) R3
    by_cases e : g = h
    · subst e; exact R2.2.2.2.2.1
    · rw [gI_of (R2.2.1 g e)]; exact ty1 g hg
set_option maxHeartbeats 2000000 in
theorem tk_inv {kd nn a : Int} (w : QW V) (e : EA V) (ty : ∀ g, g < 8 → 0 ≤ (gI V 32 g).toInt ∧ (gI V 32 g).toInt ≤ 24) (tk : TkE V V' h kd nn a) : QW V' ∧ EA V' := by
  have key : (∀ j q, (j = 26 ∨ j = 28 ∨ j = 32 ∨ j = 39) → V' j q = V j q) → QW V' ∧ EA V' := fun f => ⟨w.of fun q => ⟨f 26 q (by omega), f 28 q (by omega)⟩, e.of fun q => ⟨f 32 q (by omega), f 39 q (by omega)⟩⟩
  rcases tk with ⟨u, e⟩ | ⟨-, ⟨-, c⟩ | ⟨-, c⟩ | ⟨-, c⟩ | ⟨-, V1, Q, c⟩ | ⟨-, c⟩ | ⟨-, c⟩⟩
  · exact key fun j q hj => by rw [e, up_ne (by omega)]
  · rcases c with e | ⟨F, -⟩ | ⟨-, m, -⟩
    · exact key fun j q hj => by rw [e]
    · exact key fun j q hj => F j q (by omega)
    · exact key fun j q hj => m j q (by omega)
  · rcases c with e | ⟨-, V1, e, F, -⟩ | ⟨-, m, -⟩
    · exact key fun j q hj => by rw [e]
    · exact key fun j q hj => by rw [F j q (by omega), e, up_ne (by omega)]
    · exact key fun j q hj => m j q (by omega)
  · rcases c with e | ⟨F, -⟩ | e
    · exact key fun j q hj => by rw [e]
    · exact key fun j q hj => F j q (by omega)
    · exact key fun j q hj => by rw [e, up_ne (by omega), up_ne (by omega)]
  · have w1 : QW V1 := fun q hq s => by
      rw [gI_of (Q.1 26 q (by omega) (by omega))] at s
      have w0 := w q hq s
      rcases Q.2.2 q with ⟨_, e2⟩ | ⟨_, _, x, e2, c⟩
      · rw [gI_of e2]; exact w0
      · have g : gI V1 28 q = x := by unfold gI; rw [e2]; rfl
        rw [g]
        rcases c with ⟨c1, c2⟩ | ⟨_, c2⟩
        · have e2 : (Int32.ofInt 2).toInt = 2 := by decide
          rw [c2, n_mul (by rw [e2]; omega) (by rw [e2]; omega), e2]; omega
        · omega
    have e1 : EA V1 := e.of fun q => ⟨Q.1 32 q (by omega) (by omega), Q.1 39 q (by omega) (by omega)⟩
    have f : ∀ j q, (j = 26 ∨ j = 28 ∨ j = 32 ∨ j = 39) → V' j q = V1 j q := fun j q hj => by
      rcases c with e | ⟨F, -⟩ | ⟨f, -⟩
      · rw [e]
      · exact F j q (by omega)
      · exact f j q (by omega) (by omega) (by omega)
    exact ⟨w1.of fun q => ⟨f 26 q (by omega), f 28 q (by omega)⟩, e1.of fun q => ⟨f 32 q (by omega), f 39 q (by omega)⟩⟩
  · refine ⟨w.of fun q => ⟨recs_fr _ _ _ _ c 26 q (by unfold kept; omega), recs_fr _ _ _ _ c 28 q (by omega)⟩, recs_ea _ _ _ _ e ty c⟩
  · exact key fun j q hj => by rw [c]
end
