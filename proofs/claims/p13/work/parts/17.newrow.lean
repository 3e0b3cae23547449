/-- a new row of numbers of kind k at q -/
def pA (S : pS) (q k : Nat) : pS := (va_up S.1 q k, S.2.1, va_up S.2.2.1 q (fun _ => 0), S.2.2.2)
theorem pF_newr21 {cy : Nat → ClassId} {S : pS} {q : Nat} (b : Nat) : va_up (pF cy S) q (.inl (cy 0, 200, .inl (fun _ => 0))) b = pF cy (pA S q 21) b := by
  by_cases hb : b = q
  · subst hb
    rw [va_up_self, pF_21 (S := pA S b 21) (va_up_self _ _ _)]
    rw [show (pA S b 21).2.2.1 b = (fun _ => 0) from va_up_self _ _ _]
  · rw [va_up_ne _ _ hb]
    unfold pF
    rw [show (pA S q 21).1 b = S.1 b from va_up_ne _ _ hb, show (pA S q 21).2.2.1 b = S.2.2.1 b from va_up_ne _ _ hb]
    rfl
theorem pF_newr22 {cy : Nat → ClassId} {S : pS} {q : Nat} (b : Nat) : va_up (pF cy S) q (.inl (cy 1, 17, .inl (fun _ => 0))) b = pF cy (pA S q 22) b := by
  by_cases hb : b = q
  · subst hb
    rw [va_up_self, pF_22 (S := pA S b 22) (va_up_self _ _ _)]
    rw [show (pA S b 22).2.2.1 b = (fun _ => 0) from va_up_self _ _ _]
  · rw [va_up_ne _ _ hb]
    unfold pF
    rw [show (pA S q 22).1 b = S.1 b from va_up_ne _ _ hb, show (pA S q 22).2.2.1 b = S.2.2.1 b from va_up_ne _ _ hb]
    rfl
section XNR
variable {p : Program} {l : Launch} {e : Env} {R : Room} {s : State} {m : MethodId} {args : Array Value} {below : List Frame} {meth : Method} {c : Code} {H H0 : Heap} {locs : List Loc} {cells slots pc : Nat} {Q : State → Prop} {D : va_G} {cy : Nat → ClassId} {A : Nat → Prop} {ls : Array Slot} {rest : List Value} {cc : ByteArray} {X : va_W} {L : List Nat} {S : pS}
theorem p_newr21 (hexec : p.tables.exec = Jvm.exec) (hb : c.code = cc) (harr : (Cond.arrayClass .byte).before args s = true) (hK : xK D cy s) (hP : va_P D vwCl (X ++ va_pl L (pF cy S)) H) (hD : va_D A (X ++ va_pl L (pF cy S))) (hS : va_S A H0 H locs) (hA : ∀ q, H0.size ≤ q → A q) (hcells : cells + 1 ≤ R.cells) (hslots : slots + 200 ≤ R.slots) (hdg : decode cc pc = .ok (.newarray .byte, 2))
    (kk : ∀ (q : Nat) (H1 : Heap), q ∉ L → va_P D vwCl (X ++ va_pl (L ++ [q]) (pF cy (pA S q 21))) H1 → va_D A (X ++ va_pl (L ++ [q]) (pF cy (pA S q 21))) → va_S A H0 H1 locs → W p l e R s m args below meth c H1 locs (cells + 1) (slots + 200) Q (F0 m (pc + 2) ls (.ref q :: rest))) : W p l e R s m args below meth c H locs cells slots Q (F0 m pc ls (.int 200 :: rest)) := by
  refine x_newa (atype := .byte) (a0 := (200, .inl (fun _ => 0))) hexec hb harr hK.1 hP hD hS hA 0 rfl (fun _ => rfl) (by decide) (by decide +kernel) (by decide) hcells hslots hdg (fun q H1 hP1 hD1 hS1 => ?_)
  have hq := va_pl_fresh2 hD1
  have e1 : (X ++ va_pl L (pF cy S)) ++ [(q, .inl (cy 0, 200, .inl (fun _ => 0)))] = X ++ va_pl (L ++ [q]) (pF cy (pA S q 21)) := by
    rw [List.append_assoc, va_pl_push hq]
    exact congrArg (fun z => X ++ z) (va_pl_congr (fun b => pF_newr21 b))
  rw [e1] at hP1 hD1
  exact kk q H1 hq hP1 hD1 hS1
theorem p_newr22 (hexec : p.tables.exec = Jvm.exec) (hb : c.code = cc) (harr : (Cond.arrayClass .int).before args s = true) (hK : xK D cy s) (hP : va_P D vwCl (X ++ va_pl L (pF cy S)) H) (hD : va_D A (X ++ va_pl L (pF cy S))) (hS : va_S A H0 H locs) (hA : ∀ q, H0.size ≤ q → A q) (hcells : cells + 1 ≤ R.cells) (hslots : slots + 17 ≤ R.slots) (hdg : decode cc pc = .ok (.newarray .int, 2))
    (kk : ∀ (q : Nat) (H1 : Heap), q ∉ L → va_P D vwCl (X ++ va_pl (L ++ [q]) (pF cy (pA S q 22))) H1 → va_D A (X ++ va_pl (L ++ [q]) (pF cy (pA S q 22))) → va_S A H0 H1 locs → W p l e R s m args below meth c H1 locs (cells + 1) (slots + 17) Q (F0 m (pc + 2) ls (.ref q :: rest))) : W p l e R s m args below meth c H locs cells slots Q (F0 m pc ls (.int 17 :: rest)) := by
  refine x_newa (atype := .int) (a0 := (17, .inl (fun _ => 0))) hexec hb harr hK.1 hP hD hS hA 1 rfl (fun _ => rfl) (by decide) (by decide +kernel) (by decide) hcells hslots hdg (fun q H1 hP1 hD1 hS1 => ?_)
  have hq := va_pl_fresh2 hD1
  have e1 : (X ++ va_pl L (pF cy S)) ++ [(q, .inl (cy 1, 17, .inl (fun _ => 0)))] = X ++ va_pl (L ++ [q]) (pF cy (pA S q 22)) := by
    rw [List.append_assoc, va_pl_push hq]
    exact congrArg (fun z => X ++ z) (va_pl_congr (fun b => pF_newr22 b))
  rw [e1] at hP1 hD1
  exact kk q H1 hq hP1 hD1 hS1
end XNR
