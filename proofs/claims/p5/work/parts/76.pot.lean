def sm (f : Nat → Nat) : Nat → Nat
  | 0 => 0
  | n + 1 => sm f n + f n
theorem sm_s (f : Nat → Nat) (n : Nat) : sm f (n + 1) = sm f n + f n := rfl
theorem sm_le {f g : Nat → Nat} : ∀ n : Nat, (∀ i, i < n → f i ≤ g i) → sm f n ≤ sm g n := by
  intro n
  induction n with
  | zero => intro _; exact Nat.le_refl _
  | succ n ih =>
    intro h
    have := ih (fun i hi => h i (by omega))
    have := h n (by omega)
    rw [sm_s, sm_s]; omega
theorem sm_eq {f g : Nat → Nat} (n : Nat) (h : ∀ i, i < n → f i = g i) : sm f n = sm g n :=
  Nat.le_antisymm (sm_le n fun i hi => by rw [h i hi]; exact Nat.le_refl _) (sm_le n fun i hi => by rw [h i hi]; exact Nat.le_refl _)
theorem sm_one {f g : Nat → Nat} {k : Nat} : ∀ n : Nat, k < n → (∀ i, i < n → ¬ i = k → f i = g i) → sm f n + g k = sm g n + f k := by
  intro n
  induction n with
  | zero => intro h; omega
  | succ n ih =>
    intro hk h
    rw [sm_s, sm_s]
    by_cases e : k = n
    · subst e
      rw [sm_eq k (fun i hi => h i (by omega) (by omega))]; omega
    · have := ih (by omega) (fun i hi => h i (by omega))
      have := h n (by omega) (fun q => e q.symm)
      omega
theorem sm_le1 {f g : Nat → Nat} {k c : Nat} : ∀ n : Nat, (∀ i, i < n → ¬ i = k → f i ≤ g i) → (k < n → f k ≤ g k + c) → sm f n ≤ sm g n + c := by
  intro n
  induction n with
  | zero => intro _ _; exact Nat.zero_le _
  | succ n ih =>
    intro h hk
    rw [sm_s, sm_s]
    by_cases e : k = n
    · subst e
      have := sm_le k (fun i hi => h i (by omega) (by omega))
      have := hk (by omega)
      omega
    · have := ih (fun i hi => h i (by omega)) (fun q => hk (by omega))
      have := h n (by omega) (fun q => e q.symm)
      omega
theorem sm_del {f g : Nat → Nat} {k : Nat} : ∀ n : Nat, k ≤ n → (∀ i, i < k → g i = f i) → (∀ i, k ≤ i → i < n → g i = f (i + 1)) → sm f (n + 1) = sm g n + f k := by
  intro n
  induction n with
  | zero => intro hk _ _; have : k = 0 := by omega
            subst this; rfl
  | succ n ih =>
    intro hk h1 h2
    by_cases e : k = n + 1
    · subst e
      rw [sm_s, sm_eq (n + 1) (fun i hi => (h1 i hi).symm)]
    · rw [sm_s, ih (by omega) h1 (fun i a b => h2 i a (by omega)), sm_s, h2 n (by omega) (by omega)]; omega
theorem sm_head (f : Nat → Nat) (n : Nat) : sm f (n + 1) = f 0 + sm (fun i => f (i + 1)) n := by
  have := sm_del (f := f) (g := fun i => f (i + 1)) (k := 0) n (by omega) (fun i hi => by omega) (fun i _ _ => rfl)
  omega
theorem sm_mono {f : Nat → Nat} {m n : Nat} (h : m ≤ n) : sm f m ≤ sm f n := by
  induction n with
  | zero => have : m = 0 := by omega
            subst this; exact Nat.le_refl _
  | succ n ih =>
    by_cases e : m = n + 1
    · subst e; exact Nat.le_refl _
    · have := ih (by omega); rw [sm_s]; omega
/-- parts of a host's potential -/
def hA (V : Nat → Nat → Value) (h : Nat) : Nat := if (gL V 14 h).toInt ≤ (gL V 0 0).toInt then 11 else 0
noncomputable def hD (V : Nat → Nat → Value) (h : Nat) : Nat := @ite Nat (mayD V h) (Classical.propDecidable _) 2 0
def Mw (i t : Int) : Nat := if -5000 ≤ t then (2147483648 - t + 10).toNat else if (257 * i + 4093 * t).tmod 65024 = 0 then (if t = -5001 then 2147488660 else 1) else 0
def hM (V : Nat → Nat → Value) (h : Nat) : Nat := 12 * Mw (gI V 5 h).toInt (gI V 7 h).toInt
def hN (V : Nat → Nat → Value) (h : Nat) : Nat := if (gL V 18 h).toInt ≤ (gL V 0 0).toInt then (if (gI V 17 h).toInt < 3 then 9 else 2532) else 0
def hS (V : Nat → Nat → Value) (h : Nat) : Nat := if (gI V 16 h).toInt = 3 then 10 else 0
noncomputable def hB (V : Nat → Nat → Value) (h : Nat) : Nat := @ite Nat (Bad V h) (Classical.propDecidable _) 0 (10 * (2147483648 - (gI V 19 h).toInt).toNat)
def qW (V : Nat → Nat → Value) (q : Nat) : Nat := if 0 < (gI V 26 q).toInt ∧ (gL V 27 q).toInt ≤ (gL V 0 0).toInt then 9 else 0
def hQ (V : Nat → Nat → Value) (h : Nat) : Nat := sm (fun i => qW V (4 * h + i)) 4
def rW (V : Nat → Nat → Value) (q : Nat) : Nat := if (gL V 30 q).toInt ≤ (gL V 0 0).toInt then 2522 else 0
def hR (V : Nat → Nat → Value) (h : Nat) : Nat := sm (fun i => rW V (4 * h + i)) (gI V 31 h).toInt.toNat
def isD (V : Nat → Nat → Value) (k : Nat) : Prop := ∃ d : Int64, eDue V k d ∧ d.toInt ≤ (gL V 0 0).toInt
noncomputable def eW (V : Nat → Nat → Value) (k : Nat) : Nat := @ite Nat (isD V k) (Classical.propDecidable _) (9 * (5 - (gI V 39 k).toInt).toNat) 0
noncomputable def hE (V : Nat → Nat → Value) (h : Nat) : Nat := sm (fun i => eW V (24 * h + i)) (gI V 32 h).toInt.toNat
noncomputable def hp (V : Nat → Nat → Value) (h : Nat) : Nat := hA V h + hD V h + hM V h + hN V h + hS V h + hB V h + hQ V h + hR V h + hE V h
section
variable {V V' : Nat → Nat → Value} {h : Nat}
theorem gI_of {j q : Nat} (e : V' j q = V j q) : gI V' j q = gI V j q := by unfold gI; rw [e]
theorem gL_of {j q : Nat} (e : V' j q = V j q) : gL V' j q = gL V j q := by unfold gL; rw [e]
theorem hA_eq (t : V' 0 0 = V 0 0) (e : V' 14 h = V 14 h) : hA V' h = hA V h := by unfold hA; rw [gL_of t, gL_of e]
theorem mayD_iff (t : V' 0 0 = V 0 0) (e : V' 15 h = V 15 h) : mayD V' h = mayD V h := by unfold mayD; rw [gL_of t, gL_of e]
theorem hD_eq (t : V' 0 0 = V 0 0) (e : V' 15 h = V 15 h) : hD V' h = hD V h := by unfold hD; rw [mayD_iff t e]
theorem hM_eq (e5 : V' 5 h = V 5 h) (e7 : V' 7 h = V 7 h) : hM V' h = hM V h := by unfold hM; rw [gI_of e5, gI_of e7]
theorem hN_eq (t : V' 0 0 = V 0 0) (e17 : V' 17 h = V 17 h) (e18 : V' 18 h = V 18 h) : hN V' h = hN V h := by unfold hN; rw [gL_of t, gI_of e17, gL_of e18]
theorem hS_eq (e : V' 16 h = V 16 h) : hS V' h = hS V h := by unfold hS; rw [gI_of e]
theorem Bad_eq (b : (gI V 21 (16 * h)).toInt ≤ 15) (e : ∀ q, 16 * h ≤ q → q < 16 * h + 16 → V' 21 q = V 21 q) : Bad V' h = Bad V h := by
  have e0 : gI V' 21 (16 * h) = gI V 21 (16 * h) := gI_of (e _ (by omega) (by omega))
  refine propext ⟨?_, ?_⟩
  · rintro ⟨d, d1, d2, d3⟩
    rw [e0] at d2
    rw [gI_of (e (16 * h + d) (by omega) (by omega))] at d3
    exact ⟨d, d1, d2, d3⟩
  · rintro ⟨d, d1, d2, d3⟩
    refine ⟨d, d1, by rw [e0]; exact d2, ?_⟩
    rw [gI_of (e (16 * h + d) (by omega) (by omega))]
    exact d3
theorem hB_eq (b : (gI V 21 (16 * h)).toInt ≤ 15) (e19 : V' 19 h = V 19 h) (e : ∀ q, 16 * h ≤ q → q < 16 * h + 16 → V' 21 q = V 21 q) : hB V' h = hB V h := by
  unfold hB; rw [Bad_eq b e, gI_of e19]
theorem hQ_eq (t : V' 0 0 = V 0 0) (e26 : ∀ q, 4 * h ≤ q → q < 4 * h + 4 → V' 26 q = V 26 q) (e27 : ∀ q, 4 * h ≤ q → q < 4 * h + 4 → V' 27 q = V 27 q) : hQ V' h = hQ V h := by
  unfold hQ
  refine sm_eq 4 fun i hi => ?_
  show qW _ _ = qW _ _
  unfold qW
  rw [gL_of t, gI_of (e26 _ (by omega) (by omega)), gL_of (e27 _ (by omega) (by omega))]
theorem hR_eq (b : (gI V 31 h).toInt ≤ 4) (t : V' 0 0 = V 0 0) (e31 : V' 31 h = V 31 h) (e30 : ∀ q, 4 * h ≤ q → q < 4 * h + 4 → V' 30 q = V 30 q) : hR V' h = hR V h := by
  unfold hR
  rw [gI_of e31]
  refine sm_eq _ fun i hi => ?_
  show rW _ _ = rW _ _
  unfold rW
  rw [gL_of t, gL_of (e30 _ (by omega) (by omega))]
theorem eDue_of {k : Nat} {d : Int64} (e35 : gI V' 35 k = gI V 35 k) (e36 : gL V' 36 k = gL V 36 k) (e37 : gL V' 37 k = gL V 37 k) (e38 : gI V' 38 k = gI V 38 k) (e39 : gI V' 39 k = gI V 39 k) : eDue V' k d = eDue V k d := by
  unfold eDue; rw [e35, e36, e37, e38, e39]
theorem eW_of {k l : Nat} (t : gL V' 0 0 = gL V 0 0) (e35 : gI V' 35 k = gI V 35 l) (e36 : gL V' 36 k = gL V 36 l) (e37 : gL V' 37 k = gL V 37 l) (e38 : gI V' 38 k = gI V 38 l) (e39 : gI V' 39 k = gI V 39 l) : eW V' k = eW V l := by
  unfold eW isD eDue; rw [t, e35, e36, e37, e38, e39]
theorem hE_eq (b : (gI V 32 h).toInt ≤ 24) (t : V' 0 0 = V 0 0) (e32 : V' 32 h = V 32 h) (e : ∀ j q, 35 ≤ j → j ≤ 39 → 24 * h ≤ q → q < 24 * h + 24 → V' j q = V j q) : hE V' h = hE V h := by
  unfold hE
  rw [gI_of e32]
  refine sm_eq _ fun i hi => ?_
  show eW _ _ = eW _ _
  have z : ∀ j, 35 ≤ j → j ≤ 39 → V' j (24 * h + i) = V j (24 * h + i) := fun j a b => e j _ a b (by omega) (by omega)
  exact eW_of (gL_of t) (gI_of (z 35 (by decide) (by decide))) (gL_of (z 36 (by decide) (by decide))) (gL_of (z 37 (by decide) (by decide))) (gI_of (z 38 (by decide) (by decide))) (gI_of (z 39 (by decide) (by decide)))
/-- the places that belong to a host -/
def blk (j q h : Nat) : Prop := ((j = 5 ∨ j = 7 ∨ (14 ≤ j ∧ j ≤ 19) ∨ j = 31 ∨ j = 32) ∧ q = h) ∨ (j = 21 ∧ 16 * h ≤ q ∧ q < 16 * h + 16) ∨ ((j = 26 ∨ j = 27 ∨ j = 30) ∧ 4 * h ≤ q ∧ q < 4 * h + 4) ∨ ((35 ≤ j ∧ j ≤ 39) ∧ 24 * h ≤ q ∧ q < 24 * h + 24)
/-- the numbers of a host -/
def Ty1 (V : Nat → Nat → Value) (h : Nat) : Prop := (0 ≤ (gI V 31 h).toInt ∧ (gI V 31 h).toInt ≤ 4) ∧ (0 ≤ (gI V 32 h).toInt ∧ (gI V 32 h).toInt ≤ 24) ∧ (gI V 21 (16 * h)).toInt ≤ 15 ∧ (0 ≤ (gI V 5 h).toInt ∧ (gI V 5 h).toInt ≤ 65535)
theorem hp_eq (b : Ty1 V h) (t : V' 0 0 = V 0 0) (e : ∀ j q, blk j q h → V' j q = V j q) : hp V' h = hp V h ∧ hD V' h = hD V h := by
  obtain ⟨b1, b2, b3, _⟩ := b
  have z : ∀ j, (j = 5 ∨ j = 7 ∨ (14 ≤ j ∧ j ≤ 19) ∨ j = 31 ∨ j = 32) → V' j h = V j h := fun j hj => e j h (Or.inl ⟨hj, rfl⟩)
  have eD := hD_eq t (z 15 (by omega))
  refine ⟨?_, eD⟩
  unfold hp
  rw [hA_eq t (z 14 (by omega)), eD, hM_eq (z 5 (by omega)) (z 7 (by omega)), hN_eq t (z 17 (by omega)) (z 18 (by omega)), hS_eq (z 16 (by omega)), hB_eq b3 (z 19 (by omega)) (fun q q1 q2 => e 21 q (Or.inr (Or.inl ⟨rfl, q1, q2⟩))), hQ_eq t (fun q q1 q2 => e 26 q (Or.inr (Or.inr (Or.inl ⟨Or.inl rfl, q1, q2⟩)))) (fun q q1 q2 => e 27 q (Or.inr (Or.inr (Or.inl ⟨Or.inr (Or.inl rfl), q1, q2⟩)))), hR_eq b1.2 t (z 31 (by omega)) (fun q q1 q2 => e 30 q (Or.inr (Or.inr (Or.inl ⟨Or.inr (Or.inr rfl), q1, q2⟩)))), hE_eq b2.2 t (z 32 (by omega)) (fun j q j1 j2 q1 q2 => e j q (Or.inr (Or.inr (Or.inr ⟨⟨j1, j2⟩, q1, q2⟩))))]
end
/-- the ring's weight -/
def rg (w : Nat → Nat) (V : Nat → Nat → Value) : Nat := sm (fun i => w (pk V (((gI V 46 0).toInt.toNat + i) % 800))) (gI V 47 0).toInt.toNat
theorem rg_eq {w : Nat → Nat} {V V' : Nat → Nat → Value} (h46 : gI V' 46 0 = gI V 46 0) (h47 : gI V' 47 0 = gI V 47 0) (hp : ∀ s, pk V' s = pk V s) : rg w V' = rg w V := by
  unfold rg
  rw [h46, h47]
  exact sm_eq _ fun i _ => by rw [hp]
theorem pk_of {V V' : Nat → Nat → Value} (h : ∀ q, V' 42 q = V 42 q) (s : Nat) : pk V' s = pk V s := by
  unfold pk gI; rw [h, h, h]
theorem rg_fr {w : Nat → Nat} {V V' : Nat → Nat → Value} (h46 : V' 46 0 = V 46 0) (h47 : V' 47 0 = V 47 0) (h42 : ∀ q, V' 42 q = V 42 q) : rg w V' = rg w V := rg_eq (gI_of h46) (gI_of h47) (pk_of h42)
theorem rg_snd {w : Nat → Nat} {V V' : Nat → Nat → Value} {p : Nat} (S : Snd V V' p) (HA : 0 ≤ (gI V 46 0).toInt ∧ (gI V 46 0).toInt < 800) (HM : 0 ≤ (gI V 47 0).toInt ∧ (gI V 47 0).toInt < 800) : rg w V' = rg w V + w p := by
  obtain ⟨a, b, c, d⟩ := S
  have es : slt V = ((gI V 46 0).toInt.toNat + (gI V 47 0).toInt.toNat) % 800 := by unfold slt; omega
  unfold rg
  rw [a, show (gI V' 47 0).toInt.toNat = (gI V 47 0).toInt.toNat + 1 by omega, sm_s, ← es, d]
  congr 1
  refine sm_eq _ fun i hi => ?_
  rw [c _ (by rw [es]; omega)]
noncomputable def P1 (V : Nat → Nat → Value) : Nat := sm (hp V) 8 + rg (fun p => p) V
def w2 (p : Nat) : Nat := if p = 8 then 9 else 1
noncomputable def P2 (V : Nat → Nat → Value) : Nat := sm (hD V) 8 + rg w2 V
theorem rg_many (V : Nat → Nat → Value) : (gI V 47 0).toInt.toNat ≤ rg w2 V := by
  unfold rg
  have : ∀ n : Nat, n ≤ sm (fun i => w2 (pk V (((gI V 46 0).toInt.toNat + i) % 800))) n := by
    intro n
    induction n with
    | zero => exact Nat.le_refl _
    | succ n ih =>
      rw [sm_s]
      have : 1 ≤ w2 (pk V (((gI V 46 0).toInt.toNat + n) % 800)) := by unfold w2; split <;> omega
      omega
  exact this _
/-- only host h's own places, the ring and what is read or written beside it change -/
def Out (V V' : Nat → Nat → Value) (h : Nat) : Prop := V' 0 0 = V 0 0 ∧ ∀ g j q, ¬ g = h → blk j q g → V' j q = V j q
theorem Out.rf {V : Nat → Nat → Value} {h : Nat} : Out V V h := ⟨rfl, fun _ _ _ _ _ => rfl⟩
theorem Out.tr {V V1 V2 : Nat → Nat → Value} {h : Nat} (a : Out V V1 h) (b : Out V1 V2 h) : Out V V2 h := ⟨b.1.trans a.1, fun g j q x y => (b.2 g j q x y).trans (a.2 g j q x y)⟩
theorem P_out {V V' : Nat → Nat → Value} {h : Nat} (hh : h < 8) (ty : ∀ g, g < 8 → Ty1 V g) (o : Out V V' h) : sm (hp V') 8 + hp V h = sm (hp V) 8 + hp V' h ∧ sm (hD V') 8 + hD V h = sm (hD V) 8 + hD V' h := by
  constructor
  · exact sm_one 8 hh (fun i hi ne => (hp_eq (ty i hi) o.1 (fun j q b => o.2 i j q ne b)).1)
  · exact sm_one 8 hh (fun i hi ne => (hp_eq (ty i hi) o.1 (fun j q b => o.2 i j q ne b)).2)
