section
variable {V V' V1 : Nat → Nat → Value} {h : Nat}
theorem rp_pot {r : Nat} (hh : h < 8) (ty : ∀ g, g < 8 → Ty1 V g) (TB : 0 ≤ (gL V 0 0).toInt ∧ (gL V 0 0).toInt ≤ 1000000000) (HA : 0 ≤ (gI V 46 0).toInt ∧ (gI V 46 0).toInt < 800) (HM : 0 ≤ (gI V 47 0).toInt ∧ (gI V 47 0).toInt < 800) (rl : (r : Int) < (gI V 31 h).toInt) (due : (gL V 30 (4 * h + r)).toInt ≤ (gL V 0 0).toInt) (a : Rp1 V V' h (r : Int)) : (P1 V' + 1 ≤ P1 V ∧ P2 V' ≤ P2 V + 9) ∧ (∀ j q : Nat, ¬ j = 29 → ¬ j = 30 → ¬ (j = 31 ∧ q = h) → (j < 42 ∨ 57 ≤ j ∨ j = 46) → V' j q = V j q) := by
  obtain ⟨V1, c, m31, f, s1, s2⟩ := a
  rw [show ((r : Int)).toNat = r by omega] at s1 s2
  have c2 : (∀ j q : Nat, (j < 42 ∨ 57 ≤ j ∨ j = 46) → V1 j q = V j q) ∧ P1 V1 ≤ P1 V + 2521 ∧ P2 V1 ≤ P2 V + 9 := by
    rcases c with e | ⟨F, p, S, hp2⟩
    · rw [e]; exact ⟨fun _ _ _ => rfl, by omega, by omega⟩
    · obtain ⟨_, a1, a2⟩ := snd_pot hh ty (ty h hh) Out.rf ⟨rfl, rfl, fun _ => rfl⟩ HA HM F S
      have := w2_le p
      exact ⟨fun j q hj => F j q (by omega), by omega, by omega⟩
  obtain ⟨fv, p1, p2⟩ := c2
  have ty1 : ∀ g, g < 8 → Ty1 (Nv V1) g := fun g hg => (ty g hg).of (V' := V1) fun j q hj => fv j q (by omega)
  have fN : ∀ j q : Nat, ¬ j = 29 → ¬ j = 30 → ¬ (j = 31 ∧ q = h) → Nv V' j q = Nv V1 j q := fun j q a b c => Nv_V (f j q a b c)
  have t : Nv V' 0 0 = Nv V1 0 0 := fN 0 0 (by omega) (by omega) (by omega)
  have e31 : gI V1 31 h = gI V 31 h := gI_of (fv 31 h (by omega))
  obtain ⟨b1, b2, b3, b4⟩ := ty1 h hh
  have b31 : (gI V1 31 h).toInt ≤ 4 := b1.2
  have o : Out (Nv V1) (Nv V') h := by
    refine ⟨t, fun g j q ne b => ?_⟩
    by_cases e : j = 30
    · subst e
      exact Nv_L (s2 q (by unfold blk at b; rw [e31] at b31; omega)) rfl rfl
    · exact fN j q (by unfold blk at b; omega) e (by unfold blk at b; omega)
  obtain ⟨q1, q2⟩ := stp_pot hh ty1 o ⟨fN 46 0 (by omega) (by omega) (by omega), fN 47 0 (by omega) (by omega) (by omega), fun q => fN 42 q (by omega) (by omega) (by omega)⟩
  have eR : hR V' h + 2522 = hR V1 h := by
    unfold hR
    rw [e31, show (gI V 31 h).toInt.toNat = (gI V' 31 h).toInt.toNat + 1 by omega]
    have tt : gL V' 0 0 = gL V1 0 0 := gL_of (f 0 0 (by omega) (by omega) (by omega))
    rw [sm_del (f := fun i => rW V1 (4 * h + i)) (g := fun i => rW V' (4 * h + i)) (k := r) _ (by omega) (fun i hi => by
      show rW V' _ = rW V1 _
      unfold rW
      rw [tt, s2 _ (by omega)]) (fun i i1 i2 => by
      show rW V' _ = rW V1 _
      unfold rW
      rw [tt, s1 (4 * h + i) (by omega) (by omega)]
      rfl)]
    have : rW V1 (4 * h + r) = 2522 := by
      unfold rW
      rw [gL_of (fv 30 _ (by omega)), gL_of (fv 0 0 (by omega)), if_pos due]
    rw [this]
  have eA : hA (Nv V') h = hA (Nv V1) h := hA_eq t (fN 14 h (by omega) (by omega) (by omega))
  have eD : hD (Nv V') h = hD (Nv V1) h := hD_eq t (fN 15 h (by omega) (by omega) (by omega))
  have eM : hM (Nv V') h = hM (Nv V1) h := hM_eq (fN 5 h (by omega) (by omega) (by omega)) (fN 7 h (by omega) (by omega) (by omega))
  have eN : hN (Nv V') h = hN (Nv V1) h := hN_eq t (fN 17 h (by omega) (by omega) (by omega)) (fN 18 h (by omega) (by omega) (by omega))
  have eS : hS (Nv V') h = hS (Nv V1) h := hS_eq (fN 16 h (by omega) (by omega) (by omega))
  have eB : hB (Nv V') h = hB (Nv V1) h := hB_eqA (fN 19 h (by omega) (by omega) (by omega)) (fun q => (fN 21 q (by omega) (by omega) (by omega)))
  have eQ : hQ (Nv V') h = hQ (Nv V1) h := hQ_eq t (fun q _ _ => (fN 26 q (by omega) (by omega) (by omega))) (fun q _ _ => (fN 27 q (by omega) (by omega) (by omega)))
  have eE : hE (Nv V') h = hE (Nv V1) h := hE_eq b2.2 t (fN 32 h (by omega) (by omega) (by omega)) (fun j q _ _ _ _ => (fN j q (by omega) (by omega) (by omega)))
  have eR : hR (Nv V') h + 2522 = hR (Nv V1) h := eR
  have z : hp (Nv V') h + 2522 = hp (Nv V1) h := by unfold hp; omega
  have q1 : P1 V' + hp (Nv V1) h = P1 V1 + hp (Nv V') h := q1
  have q2 : P2 V' + hD (Nv V1) h = P2 V1 + hD (Nv V') h := q2
  refine ⟨by omega, fun j q a b c d => ?_⟩
  rw [f j q a b c, fv j q d]
theorem eW_due {k : Nat} (d : isD V k) : eW V k = 9 * (5 - (gI V 39 k).toInt).toNat := by unfold eW; rw [if_pos d]
theorem eW_le {k : Nat} : eW V k ≤ 9 * (5 - (gI V 39 k).toInt).toNat := by
  by_cases d : isD V k
  · rw [eW_due d]; exact Nat.le_refl _
  · unfold eW; rw [if_neg d]; exact Nat.zero_le _
theorem en_pot {k : Nat} (hh : h < 8) (ty : ∀ g, g < 8 → Ty1 V g) (TB : 0 ≤ (gL V 0 0).toInt ∧ (gL V 0 0).toInt ≤ 1000000000) (HA : 0 ≤ (gI V 46 0).toInt ∧ (gI V 46 0).toInt < 800) (HM : 0 ≤ (gI V 47 0).toInt ∧ (gI V 47 0).toInt < 800) (ea : EA V) (k1 : 24 * h ≤ k) (k2 : (k : Int) < 24 * (h : Int) + (gI V 32 h).toInt) (due : isD V k) (a : En1 V V' h k) : (P1 V' + 1 ≤ P1 V ∧ P2 V' ≤ P2 V + 9) ∧ EA V' ∧ (∀ j q : Nat, ¬ (32 ≤ j ∧ j ≤ 41) → (j < 42 ∨ 57 ≤ j ∨ j = 46) → V' j q = V j q) := by
  have ak := ea h k hh k1 k2
  obtain ⟨b1, b2, b3, b4⟩ := ty h hh
  rcases a with ⟨_, V1, f1, n32, f2, s35, s36, s37, s38, s39⟩ | ⟨lt, V1, w, hw, eV, c⟩
  · have f : ∀ j q : Nat, ¬ (33 ≤ j ∧ j ≤ 41) → ¬ (j = 32 ∧ q = h) → V' j q = V j q := fun j q a b => (f2 j q a).trans (f1 j q b)
    have g32 : (gI V' 32 h).toInt = (gI V 32 h).toInt - 1 := by rw [gI_of (f2 32 h (by omega)), n32]
    have v1 : ∀ j q : Nat, ¬ j = 32 → V1 j q = V j q := fun j q a => f1 j q (by omega)
    have h35 : ∀ q : Nat, gI V' 35 q = gI V 35 (if k ≤ q ∧ (q : Int) < 24 * (h : Int) + (gI V 32 h).toInt - 1 then q + 1 else q) := fun q => by
      split
      · rw [s35.1 q (by omega) (by omega), gI_of (v1 35 _ (by omega))]
      · rw [s35.2 q (by omega), gI_of (v1 35 _ (by omega))]
    have h36 : ∀ q : Nat, gL V' 36 q = gL V 36 (if k ≤ q ∧ (q : Int) < 24 * (h : Int) + (gI V 32 h).toInt - 1 then q + 1 else q) := fun q => by
      split
      · rw [s36.1 q (by omega) (by omega), gL_of (v1 36 _ (by omega))]
      · rw [s36.2 q (by omega), gL_of (v1 36 _ (by omega))]
    have h37 : ∀ q : Nat, gL V' 37 q = gL V 37 (if k ≤ q ∧ (q : Int) < 24 * (h : Int) + (gI V 32 h).toInt - 1 then q + 1 else q) := fun q => by
      split
      · rw [s37.1 q (by omega) (by omega), gL_of (v1 37 _ (by omega))]
      · rw [s37.2 q (by omega), gL_of (v1 37 _ (by omega))]
    have h38 : ∀ q : Nat, gI V' 38 q = gI V 38 (if k ≤ q ∧ (q : Int) < 24 * (h : Int) + (gI V 32 h).toInt - 1 then q + 1 else q) := fun q => by
      split
      · rw [s38.1 q (by omega) (by omega), gI_of (v1 38 _ (by omega))]
      · rw [s38.2 q (by omega), gI_of (v1 38 _ (by omega))]
    have h39 : ∀ q : Nat, gI V' 39 q = gI V 39 (if k ≤ q ∧ (q : Int) < 24 * (h : Int) + (gI V 32 h).toInt - 1 then q + 1 else q) := fun q => by
      split
      · rw [s39.1 q (by omega) (by omega), gI_of (v1 39 _ (by omega))]
      · rw [s39.2 q (by omega), gI_of (v1 39 _ (by omega))]
    have fN : ∀ j q : Nat, ¬ (33 ≤ j ∧ j ≤ 41) → ¬ (j = 32 ∧ q = h) → Nv V' j q = Nv V j q := fun j q a b => Nv_V (f j q a b)
    have t : Nv V' 0 0 = Nv V 0 0 := fN 0 0 (by omega) (by omega)
    have o : Out (Nv V) (Nv V') h := by
      refine ⟨t, fun g j q ne b => ?_⟩
      by_cases e : 35 ≤ j ∧ j ≤ 39
      · have nq : ¬ (k ≤ q ∧ (q : Int) < 24 * (h : Int) + (gI V 32 h).toInt - 1) := by unfold blk at b; omega
        have : j = 35 ∨ j = 36 ∨ j = 37 ∨ j = 38 ∨ j = 39 := by omega
        rcases this with e | e | e | e | e
        · subst e; exact Nv_I (by rw [h35, if_neg nq]) rfl rfl
        · subst e; exact Nv_L (by rw [h36, if_neg nq]) rfl rfl
        · subst e; exact Nv_L (by rw [h37, if_neg nq]) rfl rfl
        · subst e; exact Nv_I (by rw [h38, if_neg nq]) rfl rfl
        · subst e; exact Nv_I (by rw [h39, if_neg nq]) rfl rfl
      · exact fN j q (by unfold blk at b; omega) (by unfold blk at b; omega)
    obtain ⟨q1, q2⟩ := stp_pot (V := Nv V) hh ty o ⟨fN 46 0 (by omega) (by omega), fN 47 0 (by omega) (by omega), fun q => fN 42 q (by omega) (by omega)⟩
    have eE : hE V' h + eW V k = hE V h := by
      unfold hE
      rw [show (gI V 32 h).toInt.toNat = (gI V' 32 h).toInt.toNat + 1 by omega]
      have tt : gL V' 0 0 = gL V 0 0 := gL_of (f 0 0 (by omega) (by omega))
      rw [sm_del (f := fun i => eW V (24 * h + i)) (g := fun i => eW V' (24 * h + i)) (k := k - 24 * h) _ (by omega) (fun i hi => by
        show eW V' _ = eW V _
        refine eW_of tt ?_ ?_ ?_ ?_ ?_
        · rw [h35, if_neg (by omega)]
        · rw [h36, if_neg (by omega)]
        · rw [h37, if_neg (by omega)]
        · rw [h38, if_neg (by omega)]
        · rw [h39, if_neg (by omega)]) (fun i i1 i2 => by
        show eW V' _ = eW V (24 * h + (i + 1))
        refine eW_of tt ?_ ?_ ?_ ?_ ?_
        · rw [h35, if_pos (by omega)]; rfl
        · rw [h36, if_pos (by omega)]; rfl
        · rw [h37, if_pos (by omega)]; rfl
        · rw [h38, if_pos (by omega)]; rfl
        · rw [h39, if_pos (by omega)]; rfl)]
      show _ = _ + eW V (24 * h + (k - 24 * h))
      rw [show 24 * h + (k - 24 * h) = k by omega]
    have ew := eW_due due
    have eA : hA (Nv V') h = hA (Nv V) h := hA_eq t (fN 14 h (by omega) (by omega))
    have eD : hD (Nv V') h = hD (Nv V) h := hD_eq t (fN 15 h (by omega) (by omega))
    have eM : hM (Nv V') h = hM (Nv V) h := hM_eq (fN 5 h (by omega) (by omega)) (fN 7 h (by omega) (by omega))
    have eN : hN (Nv V') h = hN (Nv V) h := hN_eq t (fN 17 h (by omega) (by omega)) (fN 18 h (by omega) (by omega))
    have eS : hS (Nv V') h = hS (Nv V) h := hS_eq (fN 16 h (by omega) (by omega))
    have eB : hB (Nv V') h = hB (Nv V) h := hB_eqA (fN 19 h (by omega) (by omega)) (fun q => (fN 21 q (by omega) (by omega)))
    have eQ : hQ (Nv V') h = hQ (Nv V) h := hQ_eq t (fun q _ _ => (fN 26 q (by omega) (by omega))) (fun q _ _ => (fN 27 q (by omega) (by omega)))
    have eR : hR (Nv V') h = hR (Nv V) h := hR_eq b1.2 t (fN 31 h (by omega) (by omega)) (fun q _ _ => (fN 30 q (by omega) (by omega)))
    have eE : hE (Nv V') h + eW V k = hE (Nv V) h := eE
    have z : hp (Nv V') h + eW V k = hp (Nv V) h := by unfold hp; omega
    have q1 : P1 V' + hp (Nv V) h = P1 V + hp (Nv V') h := q1
    have q2 : P2 V' + hD (Nv V) h = P2 V + hD (Nv V') h := q2
    refine ⟨by omega, fun g k' g8 a1 a2 => ?_, fun j q a b => f j q (by omega) (by omega)⟩
    by_cases e : g = h
    · subst e
      rw [h39]
      split
      · exact ea g _ g8 (by omega) (by omega)
      · exact ea g _ g8 (by omega) (by omega)
    · rw [gI_of (f 32 g (by omega) (by omega))] at a2
      have := (ty g g8).2.1.2
      rw [h39, if_neg (by omega)]
      exact ea g _ g8 a1 a2
  · have n4 : ¬ (gI V 39 k).toInt = 4 := by
      obtain ⟨d, hd, hl⟩ := due
      rcases hd with ⟨_, e⟩ | ⟨_, e, _⟩
      · rw [e] at hl; omega
      · exact e
    have w1 : w.toInt = (gI V 39 k).toInt + 1 := by rw [hw, n_add (by show _ ≤ _ + (1 : Int); omega) (by show _ + (1 : Int) ≤ _; omega)]; rfl
    have f : ∀ j q : Nat, ¬ (j = 39 ∧ q = k) → V1 j q = V j q := fun j q hj => by
      rw [eV]
      by_cases e : j = 39
      · subst e; exact up_ni (by decide) (fun e => hj ⟨rfl, e⟩)
      · exact up_ne e
    have g39 : gI V1 39 k = w := by rw [eV, gI_eq]
    have t : V1 0 0 = V 0 0 := f 0 0 (by omega)
    have o : Out V V1 h := ⟨t, fun g j q ne b => f j q (by unfold blk at b; omega)⟩
    have ty1 : Ty1 V1 h := (ty h hh).of fun j q hj => f j q (by omega)
    have eE : hE V1 h + 9 ≤ hE V h := by
      unfold hE
      rw [gI_of (f 32 h (by omega))]
      have s := sm_one (f := fun i => eW V1 (24 * h + i)) (g := fun i => eW V (24 * h + i)) (k := k - 24 * h) (gI V 32 h).toInt.toNat (by omega) (fun i hi ne => by
        show eW V1 _ = eW V _
        exact eW_of (gL_of t) (gI_of (f 35 _ (by omega))) (gL_of (f 36 _ (by omega))) (gL_of (f 37 _ (by omega))) (gI_of (f 38 _ (by omega))) (gI_of (f 39 _ (by omega))))
      have e : 24 * h + (k - 24 * h) = k := by omega
      simp only [e] at s
      have z1 := eW_due due
      have z2 := eW_le (V := V1) (k := k)
      rw [g39, w1] at z2
      omega
    have eA : hA V1 h = hA V h := hA_eq t (f 14 h (by omega))
    have eD : hD V1 h = hD V h := hD_eq t (f 15 h (by omega))
    have eM : hM V1 h = hM V h := hM_eq (f 5 h (by omega)) (f 7 h (by omega))
    have eN : hN V1 h = hN V h := hN_eq t (f 17 h (by omega)) (f 18 h (by omega))
    have eS : hS V1 h = hS V h := hS_eq (f 16 h (by omega))
    have eB : hB V1 h = hB V h := hB_eqA (f 19 h (by omega)) (fun q => (f 21 q (by omega)))
    have eQ : hQ V1 h = hQ V h := hQ_eq t (fun q _ _ => (f 26 q (by omega))) (fun q _ _ => (f 27 q (by omega)))
    have eR : hR V1 h = hR V h := hR_eq b1.2 t (f 31 h (by omega)) (fun q _ _ => (f 30 q (by omega)))
    have z : hp V1 h + 9 ≤ hp V h := by unfold hp; omega
    have ea1 : EA V1 := fun g k' g8 a1 a2 => by
      rw [gI_of (f 32 g (by omega))] at a2
      by_cases e : k' = k
      · rw [e, g39]; omega
      · rw [gI_of (f 39 k' (by omega))]; exact ea g k' g8 a1 a2
    have fr : V1 46 0 = V 46 0 ∧ V1 47 0 = V 47 0 ∧ ∀ q, V1 42 q = V 42 q := ⟨f 46 0 (by omega), f 47 0 (by omega), fun q => f 42 q (by omega)⟩
    rcases c with c | ⟨F, S⟩
    · rw [c]
      obtain ⟨q1, q2⟩ := stp_pot hh ty o fr
      exact ⟨by omega, ea1, fun j q a b => f j q (by omega)⟩
    · obtain ⟨_, q1, q2⟩ := snd_pot hh ty ty1 o fr HA HM F S
      have w8 : w2 8 = 9 := rfl
      refine ⟨by omega, ea1.of fun q => ⟨F 32 q (by omega), F 39 q (by omega)⟩, fun j q a b => ?_⟩
      rw [F j q (by omega), f j q (by omega)]
theorem kept_F {j : Nat} (k : kept j) : (j < 42 ∨ 57 ≤ j ∨ j = 46) ∧ ¬ (42 ≤ j ∧ j ≤ 56 ∧ ¬ j = 46 ∧ ¬ j = 51) ∧ ¬ (27 ≤ j ∧ j ≤ 41) ∧ ¬ (10 ≤ j ∧ j ≤ 19) := by unfold kept at k; omega
set_option maxHeartbeats 2000000 in
theorem act_pot (ty : ∀ g, g < 8 → Ty1 V g) (TB : 0 ≤ (gL V 0 0).toInt ∧ (gL V 0 0).toInt ≤ 1000000000) (HA : 0 ≤ (gI V 46 0).toInt ∧ (gI V 46 0).toInt < 800) (HM : 0 ≤ (gI V 47 0).toInt ∧ (gI V 47 0).toInt < 800) (w : QW V) (ea : EA V) (a : ActE V V') : (P1 V' + 1 ≤ P1 V ∧ P2 V' ≤ P2 V + 9) ∧ QW V' ∧ EA V' ∧ ∀ j q, kept j → V' j q = V j q := by
  obtain ⟨h, hh, ⟨due, a⟩ | ⟨due, a⟩ | ⟨q, q1, q2, qs, due, a⟩ | ⟨r, rl, due, a⟩ | ⟨k, k1, k2, due, a⟩⟩ := a
  · have f : ∀ j q, (j < 42 ∨ 57 ≤ j ∨ j = 46) → ¬ (12 ≤ j ∧ j ≤ 18) → V' j q = V j q := by
      intro j q j1 j2
      rcases a with ⟨V1, F, -, f, -⟩ | ⟨V1, V2, f, -, F, -, c⟩
      · rw [f j q (by omega), F j q (by omega)]
      · have e2 : V2 j q = V j q := by rw [F j q (by omega), f j q (by omega)]
        rcases c with c | ⟨-, f2, -⟩
        · rw [c]; exact e2
        · rw [f2 j q (by omega)]; exact e2
    exact ⟨ad_pot hh ty TB HA HM due a, w.of fun q => ⟨f 26 q (by omega) (by omega), f 28 q (by omega) (by omega)⟩, ea.of fun q => ⟨f 32 q (by omega) (by omega), f 39 q (by omega) (by omega)⟩, fun j q k => by have := kept_F k; exact f j q (by omega) (by omega)⟩
  · have f : ∀ j q, (j < 42 ∨ 57 ≤ j ∨ j = 46) → ¬ (12 ≤ j ∧ j ≤ 18) → V' j q = V j q := by
      intro j q j1 j2
      rcases a with ⟨-, V1, F, -, f, -⟩ | ⟨-, V1, p, f, -, F, -⟩
      · rw [f j q (by omega), F j q (by omega)]
      · rw [F j q (by omega), f j q (by omega)]
    exact ⟨nm_pot hh ty TB HA HM due a, w.of fun q => ⟨f 26 q (by omega) (by omega), f 28 q (by omega) (by omega)⟩, ea.of fun q => ⟨f 32 q (by omega) (by omega), f 39 q (by omega) (by omega)⟩, fun j q k => by have := kept_F k; exact f j q (by omega) (by omega)⟩
  · obtain ⟨p, w'⟩ := as_pot hh ty TB HA HM w q1 q2 qs due a
    have f : ∀ j q, (j < 42 ∨ 57 ≤ j ∨ j = 46) → ¬ (27 ≤ j ∧ j ≤ 28) → V' j q = V j q := by
      intro j q j1 j2
      obtain ⟨V1, f, -, -, F, -⟩ := a
      rw [F j q (by omega), f j q (by omega)]
    exact ⟨p, w', ea.of fun q => ⟨f 32 q (by omega) (by omega), f 39 q (by omega) (by omega)⟩, fun j q k => by have := kept_F k; exact f j q (by omega) (by omega)⟩
  · obtain ⟨p, f⟩ := rp_pot hh ty TB HA HM rl due a
    exact ⟨p, w.of fun q => ⟨f 26 q (by omega) (by omega) (by omega) (by omega), f 28 q (by omega) (by omega) (by omega) (by omega)⟩, ea.of fun q => ⟨f 32 q (by omega) (by omega) (by omega) (by omega), f 39 q (by omega) (by omega) (by omega) (by omega)⟩, fun j q k => by have := kept_F k; exact f j q (by omega) (by omega) (by omega) (by omega)⟩
  · obtain ⟨p, e', f⟩ := en_pot hh ty TB HA HM ea k1 k2 due a
    exact ⟨p, w.of fun q => ⟨f 26 q (by omega) (by omega), f 28 q (by omega) (by omega)⟩, e', fun j q k => by have := kept_F k; exact f j q (by omega) (by omega)⟩
end
