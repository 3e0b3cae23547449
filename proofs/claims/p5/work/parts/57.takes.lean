theorem achk_c {ct : List CT} {X : CT} {ms : List Nat} {fuel : Nat} {nd : ND} {rest : List ND} (h1 : arun ct X nd rest ms fuel nd.1 nd.2.1 = true) (h2 : achk ct X ms fuel rest = true) : achk ct X ms fuel (nd :: rest) = true := by
  unfold achk
  rw [h1, h2]
  rfl
theorem tk_a : achk [tC410, tC420, tC413, tC411, tC270, tC269, tC268, tC422, tC271, tC412, tC272] tkX [170, 234, 469] 74 [tkL0, tkL1, tkL2, tkL3, tkL4, tkL5, tkL6, tkL7, tkL8, tkL9, tkL10, tkL11, tkL12, tkL13, tkL14, tkL15, tkL16, tkL17, tkL18, tkL19, tkL20, tkL21, tkL22, tkL23, tkL24, tkL25, tkL26, tkL27, tkL28, tkL29, tkL30, tkL31, tkL32, tkL33, tkL34, tkL35, tkL36, tkL37] = true := (achk_c tk_0 (achk_c tk_1 (achk_c tk_2 (achk_c tk_3 (achk_c tk_4 (achk_c tk_5 (achk_c tk_6 (achk_c tk_7 (achk_c tk_8 (achk_c tk_9 (achk_c tk_10 (achk_c tk_11 (achk_c tk_12 (achk_c tk_13 (achk_c tk_14 (achk_c tk_15 (achk_c tk_16 (achk_c tk_17 (achk_c tk_18 (achk_c tk_19 (achk_c tk_20 (achk_c tk_21 (achk_c tk_22 (achk_c tk_23 (achk_c tk_24 (achk_c tk_25 (achk_c tk_26 (achk_c tk_27 (achk_c tk_28 (achk_c tk_29 (achk_c tk_30 (achk_c tk_31 (achk_c tk_32 (achk_c tk_33 (achk_c tk_34 (achk_c tk_35 (achk_c tk_36 (achk_c tk_37 rfl))))))))))))))))))))))))))))))))))))))
section XF
variable {mi pc nx : Nat} {lv : LV} {r : List Value} {σ : ps} {P : Option Value → ps → Prop} {a b : Int} {ts : List Nat}
theorem x_ic {w : Int32} (hq : pins mi pc = some (0, nx, a, b, ts)) (hw : Int32.ofInt a = w) (h : wp mi nx lv (.int w :: r) σ P) : wp mi pc lv r σ P := by
  subst hw
  exact wp_step hq (fun e => absurd (show (0 : Nat) = 36 from e) (by decide)) (pret_none (fun e => absurd (show 37 ≤ (0 : Nat) ∧ (0 : Nat) ≤ 40 from e) (by decide))) rfl h
theorem x_il {v : Int32} (hq : pins mi pc = some (3, nx, a, b, ts)) (hv : plk lv a.toNat = some (.int v)) (h : wp mi nx lv (.int v :: r) σ P) : wp mi pc lv r σ P := by
  refine wp_step hq (fun e => absurd (show (3 : Nat) = 36 from e) (by decide)) (pret_none (fun e => absurd (show 37 ≤ (3 : Nat) ∧ (3 : Nat) ≤ 40 from e) (by decide))) ?_ h
  show f_iload (3, nx, a, b, ts) lv r σ = _
  unfold f_iload
  simp only
  rw [hv]
theorem x_al {v : Nat} (hq : pins mi pc = some (5, nx, a, b, ts)) (hv : plk lv a.toNat = some (.ref v)) (h : wp mi nx lv (.ref v :: r) σ P) : wp mi pc lv r σ P := by
  refine wp_step hq (fun e => absurd (show (5 : Nat) = 36 from e) (by decide)) (pret_none (fun e => absurd (show 37 ≤ (5 : Nat) ∧ (5 : Nat) ≤ 40 from e) (by decide))) ?_ h
  show f_aload (5, nx, a, b, ts) lv r σ = _
  unfold f_aload
  simp only
  rw [hv]
theorem x_is {v : Int32} (hq : pins mi pc = some (6, nx, a, b, ts)) (h : wp mi nx (pst1 lv a.toNat (.int v)) r σ P) : wp mi pc lv (.int v :: r) σ P := wp_step hq (fun e => absurd (show (6 : Nat) = 36 from e) (by decide)) (pret_none (fun e => absurd (show 37 ≤ (6 : Nat) ∧ (6 : Nat) ≤ 40 from e) (by decide))) rfl h
theorem x_inc {v w : Int32} (hq : pins mi pc = some (9, nx, a, b, ts)) (hv : plk lv a.toNat = some (.int v)) (hw : v + Int32.ofInt b = w) (h : wp mi nx (pst1 lv a.toNat (.int w)) r σ P) : wp mi pc lv r σ P := by
  subst hw
  refine wp_step hq (fun e => absurd (show (9 : Nat) = 36 from e) (by decide)) (pret_none (fun e => absurd (show 37 ≤ (9 : Nat) ∧ (9 : Nat) ≤ 40 from e) (by decide))) ?_ h
  show f_iinc (9, nx, a, b, ts) lv r σ = _
  unfold f_iinc
  simp only
  rw [hv]
theorem x_go {y : Nat} (hq : pins mi pc = some (20, nx, a, ((y : Nat) : Int), ts)) (h : wp mi y lv r σ P) : wp mi pc lv r σ P := wp_step hq (fun e => absurd (show (20 : Nat) = 36 from e) (by decide)) (pret_none (fun e => absurd (show 37 ≤ (20 : Nat) ∧ (20 : Nat) ≤ 40 from e) (by decide))) rfl h
theorem x_icT {c : Int} {u v : Int32} {y : Nat} (hq : pins mi pc = some (17, nx, c, ((y : Nat) : Int), ts)) (hc : icd c u v = true) (h : wp mi y lv r σ P) : wp mi pc lv (.int v :: .int u :: r) σ P := by
  refine wp_step hq (fun e => absurd (show (17 : Nat) = 36 from e) (by decide)) (pret_none (fun e => absurd (show 37 ≤ (17 : Nat) ∧ (17 : Nat) ≤ 40 from e) (by decide))) ?_ h
  show f_icmp (17, nx, c, ((y : Nat) : Int), ts) lv (.int v :: .int u :: r) σ = _
  unfold f_icmp
  simp only
  rw [hc]
  rfl
theorem x_icF {c : Int} {u v : Int32} (hq : pins mi pc = some (17, nx, c, b, ts)) (hc : icd c u v = false) (h : wp mi nx lv r σ P) : wp mi pc lv (.int v :: .int u :: r) σ P := by
  refine wp_step hq (fun e => absurd (show (17 : Nat) = 36 from e) (by decide)) (pret_none (fun e => absurd (show 37 ≤ (17 : Nat) ∧ (17 : Nat) ≤ 40 from e) (by decide))) ?_ h
  show f_icmp (17, nx, c, b, ts) lv (.int v :: .int u :: r) σ = _
  unfold f_icmp
  simp only
  rw [hc]
  rfl
theorem x_get {t k : Nat} {v : Value} (hq : pins mi pc = some (22, nx, 13, ((k : Nat) : Int), ts)) (ht : t ∈ sL σ) (hk : sK σ t = 13) (hv : sV σ t k = v) (h : wp mi nx lv (v :: r) σ P) : wp mi pc lv (.ref t :: r) σ P := by
  subst hv
  refine wp_step hq (fun e => absurd (show (22 : Nat) = 36 from e) (by decide)) (pret_none (fun e => absurd (show 37 ≤ (22 : Nat) ∧ (22 : Nat) ≤ 40 from e) (by decide))) ?_ h
  show f_get (22, nx, 13, ((k : Nat) : Int), ts) lv (.ref t :: r) σ = _
  unfold f_get
  have hp : pis σ t (13 : Int).toNat = true := by
    unfold pis
    rw [hk]
    simp [ht]
  simp only
  rw [hp]
  rfl
theorem x_put {t k : Nat} {v : Int32} (hq : pins mi pc = some (23, nx, 13, ((k : Nat) : Int), ts)) (ht : t ∈ sL σ) (hk : sK σ t = 13) (hf : pfit (tyS 13 k) (.int v) = true) (h : wp mi nx lv r (sPut σ t k (.int v)) P) : wp mi pc lv (.int v :: .ref t :: r) σ P := by
  refine wp_step hq (fun e => absurd (show (23 : Nat) = 36 from e) (by decide)) (pret_none (fun e => absurd (show 37 ≤ (23 : Nat) ∧ (23 : Nat) ≤ 40 from e) (by decide))) ?_ h
  show f_put (23, nx, 13, ((k : Nat) : Int), ts) lv (.int v :: .ref t :: r) σ = _
  unfold f_put
  have hp : pis σ t (13 : Int).toNat = true := by
    unfold pis
    rw [hk]
    simp [ht]
  have hf : pfit (tyS (13 : Int).toNat ((k : Int)).toNat) (.int v) = true := hf
  simp only
  rw [hp, hf]
  rfl
theorem x_bast {u : Nat} {i v : Int32} (hq : pins mi pc = some (29, nx, a, b, ts)) (hu : u ∈ sL σ) (h14 : 14 ≤ sK σ u) (h3 : (rk (sK σ u)).1 = 3) (hp : pin i (rk (sK σ u)).2 = true) (h : wp mi nx lv r (sPut σ u i.toNatClampNeg (.int (vp_nar .boolean v))) P) : wp mi pc lv (.int v :: .int i :: .ref u :: r) σ P := by
  refine wp_step hq (fun e => absurd (show (29 : Nat) = 36 from e) (by decide)) (pret_none (fun e => absurd (show 37 ≤ (29 : Nat) ∧ (29 : Nat) ≤ 40 from e) (by decide))) ?_ h
  show f_bast (29, nx, a, b, ts) lv (.int v :: .int i :: .ref u :: r) σ = _
  unfold f_bast
  have r0 : isRow σ u 0 = false := by unfold isRow; rw [h3]; simp
  have r3 : isRow σ u 3 = true := by unfold isRow; rw [h3]; simp [hu, h14]
  simp only
  rw [r0, r3, hp]
  rfl
end XF
theorem Typed.put {Z : Nat → Prop} {σ : ps} {a j : Nat} {v : Value} (hT : Typed Z σ) (hv : Z a → okA Z (sL σ) (sK σ) (fty (sK σ a) j) v) : Typed Z (sPut σ a j v) := by
  intro b hb
  refine ⟨(hT b hb).1, fun i hi => ?_⟩
  have h := (hT b hb).2 i hi
  show okA Z (sL σ) (sK σ) (fty (sK σ b) i) (sV (sPut σ a j v) b i)
  by_cases e : b = a
  · subst e
    rw [sPut_self]
    simp only
    by_cases ei : i = j
    · rw [if_pos ei, ei]; exact hv hb
    · rw [if_neg ei]; exact h
  · rw [sPut_ne _ _ e]; exact h
/-- takes' first loop: all marks go -/
theorem tk_loop {t : Nat} {A : Nat → Nat} {h : Int32} {P : Option Value → ps → Prop} : ∀ (d : Nat) (k : Int32) (σ : ps), 0 ≤ k.toInt → k.toInt + d = 200 → Wld t A σ → t ∈ sL σ → sK σ t = 13 → A 61 ∈ sL σ →
    (∀ σ', SP t A σ σ' → (∀ j q, ¬ (j = 61 ∧ (k.toNatClampNeg ≤ q ∧ q < 200)) → vw t A σ' j q = vw t A σ j q) → (∀ q, k.toNatClampNeg ≤ q → q < 200 → vw t A σ' 61 q = .int 0) → (∀ a j, ¬ a = A 61 → sV σ' a j = sV σ a j) → wp 172 32 [(2, .int (Int32.ofInt 200)), (0, .ref t), (1, .int h)] [] σ' P) → wp 172 12 [(2, .int k), (0, .ref t), (1, .int h)] [] σ P := by
  intro d
  induction d with
  | zero =>
    intro k σ k0 kd W ht hk hA K
    have e : k = Int32.ofInt 200 := Int32.toInt_inj.mp (by rw [n_ofInt (by decide) (by decide)]; omega)
    refine x_il (by decide +kernel : pins 172 12 = some (3, 13, 2, 0, [])) rfl (x_ic (by decide +kernel : pins 172 13 = some (0, 16, 200, 0, [])) rfl (x_icT (y := 32) (by decide +kernel : pins 172 16 = some (17, 19, 3, ((32 : Nat) : Int), [])) (icdE.2.2.2.1.mpr (by rw [n_ofInt (by decide) (by decide)]; omega)) ?_))
    rw [e]
    refine K σ (SP.rf W) (fun j q _ => rfl) (fun q q1 q2 => ?_) (fun _ _ _ => rfl)
    have q1 : k.toInt.toNat ≤ q := q1
    omega
  | succ d ih =>
    intro k σ k0 kd W ht hk hA K
    have kA := (W.2.2.1 61 (by decide)).2
    have hkn : (k.toNatClampNeg : Int) = k.toInt := n_clamp k0
    have k1 : (k + Int32.ofInt 1).toInt = k.toInt + 1 := addc rfl (by decide) (by omega) (by omega) (by decide) (by decide)
    refine x_il (by decide +kernel : pins 172 12 = some (3, 13, 2, 0, [])) rfl (x_ic (by decide +kernel : pins 172 13 = some (0, 16, 200, 0, [])) rfl (x_icF (by decide +kernel : pins 172 16 = some (17, 19, 3, 32, [])) ?_ ?_))
    · cases hc : icd 3 k (Int32.ofInt 200) with
      | false => rfl
      | true =>
        have := icdE.2.2.2.1.mp hc
        rw [n_ofInt (by decide) (by decide)] at this
        omega
    refine x_al (by decide +kernel : pins 172 19 = some (5, 20, 0, 0, [])) rfl (x_get (k := 61) (by decide +kernel : pins 172 20 = some (22, 23, 13, 61, [])) ht hk ((W.2.2.1 61 (by decide)).1) (x_il (by decide +kernel : pins 172 23 = some (3, 24, 2, 0, [])) rfl (x_ic (by decide +kernel : pins 172 24 = some (0, 25, 0, 0, [])) rfl (x_bast (by decide +kernel : pins 172 25 = some (29, 26, 0, 0, [])) hA (by rw [kA]; decide) (by rw [kA]; decide +kernel) (by rw [kA]; exact n_pin k0 (by show k.toInt < 200; omega)) (x_inc (by decide +kernel : pins 172 26 = some (9, 29, 2, 1, [])) rfl rfl (x_go (y := 12) (by decide +kernel : pins 172 29 = some (20, 32, 0, ((12 : Nat) : Int), [])) ?_))))))
    have hV : vw t A (sPut σ (A 61) k.toNatClampNeg (.int (vp_nar .boolean (Int32.ofInt 0)))) = up (vw t A σ) 61 k.toNatClampNeg (.int 0) := vw_row W (by decide) _ _
    have S := SP.row W 61 k.toNatClampNeg (.int (vp_nar .boolean (Int32.ofInt 0)))
    have hn : (k + Int32.ofInt 1).toNatClampNeg = k.toNatClampNeg + 1 := by show (k + Int32.ofInt 1).toInt.toNat = k.toInt.toNat + 1; omega
    refine ih (k + Int32.ofInt 1) _ (by omega) (by omega) S.1 (by exact ht) (by exact hk) (by exact hA) ?_
    intro σ' S' f1 f2 f3
    rw [hn] at f1 f2
    refine K σ' (S.tr S') (fun j q hjq => ?_) (fun q q1 q2 => ?_) (fun a j ha => ?_)
    · rw [f1 j q (fun e => hjq ⟨e.1, by omega⟩), hV]
      by_cases ej : j = 61
      · subst ej
        rw [up_ni (by decide) (fun e => hjq ⟨rfl, by omega⟩)]
      · rw [up_ne ej]
    · by_cases e : q = k.toNatClampNeg
      · rw [f1 61 q (fun e' => by omega), hV, e, up_eq]
      · exact f2 q (by omega) q2
    · rw [f3 a j ha, sPut_ne _ _ ha]
theorem tk_ok {Z : Nat → Prop} {σ : ps} {vs : List Value} (hT : Typed Z σ) (hL : ∀ a ∈ sL σ, a < σ.1) (hE : EntOK tC430 Z σ vs) (hU : JU σ) : wp 172 0 (lv_args 0 (vs.take 2)) [] σ (Post tC430 Z σ vs) := by
  have hlen : vs.length = (cEnv tC430).length := hE.1
  have K : NOK tkX Z σ vs (Post tkX Z σ vs) tkL0 := achk_ok (X := tkX) (VA_cons tV410 (VA_cons tV420 (VA_cons tV413 (VA_cons tV411 (VA_cons tV270 (VA_cons tV269 (VA_cons tV268 (VA_cons tV422 (VA_cons tV271 (VA_cons tV412 (VA_cons tV272 VA_nil))))))))))) hlen (ret_ok hlen) _ tk_a _ List.mem_cons_self
  suffices main : wp 172 0 (lv_args 0 (vs.take 2)) [] σ (Post tkX Z σ vs) by
    refine wp_mono main (fun r σ' hr => ?_)
    obtain ⟨Z', a1, a2, a3, a4, a5⟩ := hr
    exact ⟨Z', a1, a2, a3, ⟨a4.1, a4.2.1, fun h => absurd rfl h⟩, a5⟩
  obtain ⟨v0, v1, v2, rfl⟩ := list3 (show vs.length = 3 from hlen)
  obtain ⟨t, et, zt, kt⟩ := (hE.2.1 0 _ _ rfl rfl).r rfl
  obtain ⟨hh, eh, h1, h2, h3⟩ := (hE.2.1 1 _ _ rfl rfl).i rfl
  have ok2 := hE.2.1 2 _ _ rfl rfl
  subst et eh
  have kt : sK σ t = 13 := kt
  have ht : t ∈ sL σ := (hT t zt).1
  have W := wd_of hT hL zt kt
  have R := fun j (hj : isRw j = true) => rowsA_ok hT zt kt hj
  have hf : sV σ t 47 = v2 := ch_fl (i := 0) (j := 47) (v := 2) (hE.2.2.1 (0, 0, 47, 2) List.mem_cons_self) rfl
  show wp 172 0 [(0, .ref t), (1, .int hh)] [] σ _
  refine x_al (by decide +kernel : pins 172 0 = some (5, 1, 0, 0, [])) rfl (x_ic (by decide +kernel : pins 172 1 = some (0, 2, 0, 0, [])) rfl (x_put (k := 59) (by decide +kernel : pins 172 2 = some (23, 5, 13, 59, [])) ht kt (by decide +kernel) (x_al (by decide +kernel : pins 172 5 = some (5, 6, 0, 0, [])) rfl (x_ic (by decide +kernel : pins 172 6 = some (0, 7, 1, 0, [])) rfl (x_put (k := 60) (by decide +kernel : pins 172 7 = some (23, 10, 13, 60, [])) (by exact ht) (by exact kt) (by decide +kernel) (x_ic (by decide +kernel : pins 172 10 = some (0, 11, 0, 0, [])) rfl (x_is (by decide +kernel : pins 172 11 = some (6, 12, 2, 0, [])) ?_)))))))
  have S1 := SP.fld W (k := 59) (by decide) (Int32.ofInt 0)
  have S2 := SP.fld S1.1 (k := 60) (by decide) (Int32.ofInt 1)
  have u1 := vw_fld W (k := 59) (by decide) (.int (Int32.ofInt 0))
  have u2 := vw_fld S1.1 (k := 60) (by decide) (.int (Int32.ofInt 1))
  refine tk_loop (t := t) (A := rowsA σ t) (h := hh) 200 (Int32.ofInt 0) _ (by decide) (by decide) S2.1 (by exact ht) (by exact kt) (by exact (R 61 (by decide)).2.2.1) ?_
  intro σ3 S3 f1 f2 f3
  have hS : SP t (rowsA σ t) σ σ3 := (S1.tr S2).tr S3
  -- types
  have T2 : Typed Z (sPut (sPut σ t 59 (.int (Int32.ofInt 0))) t 60 (.int (Int32.ofInt 1))) := by
    refine Typed.put (Typed.put hT (fun _ => ?_)) (fun _ => ?_)
    · rw [kt]; exact okA.mkI (lo := 0) (hi := 200) (by decide) (by decide)
    · show okA Z (sL σ) (sK σ) (fty (sK σ t) 60) _
      rw [kt]; exact okA.mkI (lo := 0) (hi := 1) (by decide) (by decide)
  have T3 : Typed Z σ3 := by
    intro a ha
    refine ⟨by rw [hS.2.1]; exact (hT a ha).1, fun i hi => ?_⟩
    have q := (T2 a ha).2 i (by rw [S3.2.2.1] at hi; exact hi)
    rw [S3.2.1, S3.2.2.1]
    by_cases e : a = rowsA σ t 61
    · have ke := (R 61 (by decide)).2.2.2
      have kk : sK (sPut (sPut σ t 59 (.int (Int32.ofInt 0))) t 60 (.int (Int32.ofInt 1))) a = 101 := by rw [e]; exact ke
      have hi : i < 200 := by rw [S3.2.2.1, kk] at hi; exact hi
      have hv : sV σ3 a i = .int 0 := by
        have := f2 i (Nat.zero_le _) hi
        unfold vw at this
        rw [if_pos (by decide)] at this
        rw [e]; exact this
      rw [hv, kk]
      exact okA.mkI (lo := 0) (hi := 1) (by decide) (by decide)
    · rw [f3 a i e]; exact q
  have hL3 : ∀ a ∈ sL σ3, a < σ3.1 := by rw [hS.2.1, hS.2.2.2.1]; exact hL
  have v47 : sV σ3 t 47 = v2 := by
    rw [f3 t 47 (fun e => W.2.1 61 e.symm), sPut_self]
    simp only
    rw [if_neg (by decide), sPut_self]
    simp only
    rw [if_neg (by decide)]
    exact hf
  have v59 : sV σ3 t 59 = .int 0 := by
    rw [f3 t 59 (fun e => W.2.1 61 e.symm), sPut_self]
    simp only
    rw [if_neg (by decide), sPut_self]
    simp only
    rw [if_pos (by decide)]
    rfl
  have v60 : sV σ3 t 60 = .int 1 := by
    rw [f3 t 60 (fun e => W.2.1 61 e.symm), sPut_self]
    simp only
    rw [if_pos (by decide)]
    rfl
  have U3 : JU σ3 := JU.st hS hU
  have J3 : JJ σ3 := by
    refine ⟨U3, jm_of hS.1 (by rw [hS.2.1]; exact (R 57 (by decide)).2.2.1) (by rw [hS.2.1]; exact (R 61 (by decide)).2.2.1) U3 ?_⟩
    intro p hp hm
    exfalso
    apply hm
    unfold gI
    rw [f2 p (Nat.zero_le _) hp]
    rfl
  have hZL : ∀ {t : AV} {v : Value}, okA Z (sL σ) (sK σ) t v → okA Z (sL σ3) (sK σ3) t v := by
    intro t v q
    rw [hS.2.1, hS.2.2.1]
    exact q
  have Q := K Z (fun i => [.ref t, .int hh, v2, .int 0, .int 1].getD i .null) [(0, .ref t), (1, .int hh)] [] σ3 ?_
  · exact wp_sub (lv' := [(0, .ref t), (1, .int hh)]) (lvLe.cons (lvLe.cons lvLe.nil rfl) rfl) (by decide : ([0, 1] : List Nat).Nodup) (by decide : ([2, 0, 1] : List Nat).Nodup) Q
  · refine ⟨⟨?_, rfl, rfl, ?_, ?_, T3, hL3⟩, ⟨?_, fun a ha => ha, ?_, fun a _ ha => Or.inl ha, ?_, ?_⟩, ⟨fun _ => ?_, fun h => absurd rfl h, fun _ => J3⟩, ?_, ?_, ?_⟩
    · intro i e he
      have hi : i < 5 := (List.getElem?_eq_some_iff.mp he).1
      match i, hi, he with
      | 0, _, he => cases he; exact ⟨hZL (hE.2.1 0 _ _ rfl rfl), Or.inl rfl⟩
      | 1, _, he => cases he; exact ⟨hZL (hE.2.1 1 _ _ rfl rfl), Or.inl rfl⟩
      | 2, _, he => cases he; exact ⟨hZL ok2, Or.inl rfl⟩
      | 3, _, he => cases he; exact ⟨okA.mkI (lo := 0) (hi := 0) (by decide) (by decide), Or.inl rfl⟩
      | 4, _, he => cases he; exact ⟨okA.mkI (lo := 1) (hi := 1) (by decide) (by decide), Or.inl rfl⟩
    · intro c hc
      have hc : c ∈ [(0, 0, 47, 2), (0, 0, 59, 3), (0, 0, 60, 4)] := hc
      simp only [List.mem_cons, List.not_mem_nil, or_false] at hc
      rcases hc with rfl | rfl | rfl
      · exact Or.inr ⟨t, rfl, Or.inl ⟨rfl, v47⟩⟩
      · exact Or.inr ⟨t, rfl, Or.inl ⟨rfl, v59⟩⟩
      · exact Or.inr ⟨t, rfl, Or.inl ⟨rfl, v60⟩⟩
    · intro i j e e' he he' h4
      have hi : i < 5 := (List.getElem?_eq_some_iff.mp he).1
      match i, hi, he with
      | 0, _, he => cases he; cases h4
      | 1, _, he => cases he; cases h4
      | 2, _, he => cases he; cases h4
      | 3, _, he => cases he; cases h4
      | 4, _, he => cases he; cases h4
    · intro a ha
      refine ⟨by rw [hS.2.1]; exact ha, by rw [hS.2.2.1], fun j hj => ?_⟩
      by_cases e : a = rowsA σ t 61
      · exfalso
        rw [e, (R 61 (by decide)).2.2.2] at hj
        rw [inM_row (j' := 0) (by decide)] at hj
        exact absurd hj (by decide +kernel)
      · rw [f3 a j e]
        by_cases e2 : a = t
        · subst e2
          rw [kt] at hj
          rw [sPut_self]
          simp only
          have n60 : ¬ j = 60 := by intro e; subst e; exact absurd hj (by decide +kernel)
          have n59 : ¬ j = 59 := by intro e; subst e; exact absurd hj (by decide +kernel)
          rw [if_neg n60, sPut_self]
          simp only
          rw [if_neg n59]
        · rw [sPut_ne _ _ e2, sPut_ne _ _ e2]
    · intro a ha hn
      rw [hS.2.1] at ha
      exact absurd ha hn
    · rw [hS.2.2.2.1]; exact Nat.le_refl _
    · rw [hS.2.2.2.2.1]; exact Nat.le_refl _
    · rw [hS.2.2.2.1, hS.2.2.2.2.1]; exact ⟨Nat.le_refl _, Nat.le_refl _⟩
    · intro i v hv
      have hi : i < 3 := (List.getElem?_eq_some_iff.mp hv).1
      match i, hi, hv with
      | 0, _, hv => cases hv; rfl
      | 1, _, hv => cases hv; rfl
      | 2, _, hv => cases hv; rfl
    · show 3 ≤ 5
      decide
    · intro i e b he h4
      have hi : i < 5 := (List.getElem?_eq_some_iff.mp he).1
      match i, hi, he with
      | 0, _, he => cases he; cases h4
      | 1, _, he => cases he; cases h4
      | 2, _, he => cases he; cases h4
      | 3, _, he => cases he; cases h4
      | 4, _, he => cases he; cases h4
