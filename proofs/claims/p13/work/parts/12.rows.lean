theorem pF_20 {cy : Nat → ClassId} {S : pS} {a : Nat} (h : S.1 a = 20) : pF cy S a = .inl (cy 0, 15, .inl (S.2.2.1 a)) := by simp [pF, pR, h]
theorem pU_20 {cy : Nat → ClassId} {S : pS} {a : Nat} (h : S.1 a = 20) (r : Nat → Int32) (b : Nat) : va_up (pF cy S) a (.inl (cy 0, 15, .inl r)) b = pF cy (S.1, S.2.1, va_up S.2.2.1 a r, S.2.2.2) b := by
  by_cases hb : b = a
  · subst hb; rw [va_up_self, pF_20 (S := (S.1, S.2.1, va_up S.2.2.1 b r, S.2.2.2)) h]; dsimp only; rw [va_up_self]
  · rw [va_up_ne _ _ hb]; unfold pF; rw [show (S.1, S.2.1, va_up S.2.2.1 a r, S.2.2.2).2.2.1 b = S.2.2.1 b from va_up_ne _ _ hb]
theorem pF_21 {cy : Nat → ClassId} {S : pS} {a : Nat} (h : S.1 a = 21) : pF cy S a = .inl (cy 0, 200, .inl (S.2.2.1 a)) := by simp [pF, pR, h]
theorem pU_21 {cy : Nat → ClassId} {S : pS} {a : Nat} (h : S.1 a = 21) (r : Nat → Int32) (b : Nat) : va_up (pF cy S) a (.inl (cy 0, 200, .inl r)) b = pF cy (S.1, S.2.1, va_up S.2.2.1 a r, S.2.2.2) b := by
  by_cases hb : b = a
  · subst hb; rw [va_up_self, pF_21 (S := (S.1, S.2.1, va_up S.2.2.1 b r, S.2.2.2)) h]; dsimp only; rw [va_up_self]
  · rw [va_up_ne _ _ hb]; unfold pF; rw [show (S.1, S.2.1, va_up S.2.2.1 a r, S.2.2.2).2.2.1 b = S.2.2.1 b from va_up_ne _ _ hb]
theorem pF_22 {cy : Nat → ClassId} {S : pS} {a : Nat} (h : S.1 a = 22) : pF cy S a = .inl (cy 1, 17, .inl (S.2.2.1 a)) := by simp [pF, pR, h]
theorem pU_22 {cy : Nat → ClassId} {S : pS} {a : Nat} (h : S.1 a = 22) (r : Nat → Int32) (b : Nat) : va_up (pF cy S) a (.inl (cy 1, 17, .inl r)) b = pF cy (S.1, S.2.1, va_up S.2.2.1 a r, S.2.2.2) b := by
  by_cases hb : b = a
  · subst hb; rw [va_up_self, pF_22 (S := (S.1, S.2.1, va_up S.2.2.1 b r, S.2.2.2)) h]; dsimp only; rw [va_up_self]
  · rw [va_up_ne _ _ hb]; unfold pF; rw [show (S.1, S.2.1, va_up S.2.2.1 a r, S.2.2.2).2.2.1 b = S.2.2.1 b from va_up_ne _ _ hb]
theorem pF_23 {cy : Nat → ClassId} {S : pS} {a : Nat} (h : S.1 a = 23) : pF cy S a = .inl (cy 1, 10, .inl (S.2.2.1 a)) := by simp [pF, pR, h]
theorem pU_23 {cy : Nat → ClassId} {S : pS} {a : Nat} (h : S.1 a = 23) (r : Nat → Int32) (b : Nat) : va_up (pF cy S) a (.inl (cy 1, 10, .inl r)) b = pF cy (S.1, S.2.1, va_up S.2.2.1 a r, S.2.2.2) b := by
  by_cases hb : b = a
  · subst hb; rw [va_up_self, pF_23 (S := (S.1, S.2.1, va_up S.2.2.1 b r, S.2.2.2)) h]; dsimp only; rw [va_up_self]
  · rw [va_up_ne _ _ hb]; unfold pF; rw [show (S.1, S.2.1, va_up S.2.2.1 a r, S.2.2.2).2.2.1 b = S.2.2.1 b from va_up_ne _ _ hb]
theorem pF_24 {cy : Nat → ClassId} {S : pS} {a : Nat} (h : S.1 a = 24) : pF cy S a = .inl (cy 4, 24, .inr (.inr (.inr (.inr (S.2.2.2 a))))) := by simp [pF, pR, h]
theorem pU_24 {cy : Nat → ClassId} {S : pS} {a : Nat} (h : S.1 a = 24) (r : Nat → Option Nat) (b : Nat) : va_up (pF cy S) a (.inl (cy 4, 24, .inr (.inr (.inr (.inr r))))) b = pF cy (S.1, S.2.1, S.2.2.1, va_up S.2.2.2 a r) b := by
  by_cases hb : b = a
  · subst hb; rw [va_up_self, pF_24 (S := (S.1, S.2.1, S.2.2.1, va_up S.2.2.2 b r)) h]; dsimp only; rw [va_up_self]
  · rw [va_up_ne _ _ hb]; unfold pF; rw [show (S.1, S.2.1, S.2.2.1, va_up S.2.2.2 a r).2.2.2 b = S.2.2.2 b from va_up_ne _ _ hb]
theorem pF_25 {cy : Nat → ClassId} {S : pS} {a : Nat} (h : S.1 a = 25) : pF cy S a = .inl (cy 5, 8, .inr (.inr (.inr (.inr (S.2.2.2 a))))) := by simp [pF, pR, h]
theorem pU_25 {cy : Nat → ClassId} {S : pS} {a : Nat} (h : S.1 a = 25) (r : Nat → Option Nat) (b : Nat) : va_up (pF cy S) a (.inl (cy 5, 8, .inr (.inr (.inr (.inr r))))) b = pF cy (S.1, S.2.1, S.2.2.1, va_up S.2.2.2 a r) b := by
  by_cases hb : b = a
  · subst hb; rw [va_up_self, pF_25 (S := (S.1, S.2.1, S.2.2.1, va_up S.2.2.2 b r)) h]; dsimp only; rw [va_up_self]
  · rw [va_up_ne _ _ hb]; unfold pF; rw [show (S.1, S.2.1, S.2.2.1, va_up S.2.2.2 a r).2.2.2 b = S.2.2.2 b from va_up_ne _ _ hb]
theorem pF_26 {cy : Nat → ClassId} {S : pS} {a : Nat} (h : S.1 a = 26) : pF cy S a = .inl (cy 6, 1025, .inr (.inr (.inr (.inr (S.2.2.2 a))))) := by simp [pF, pR, h]
theorem pU_26 {cy : Nat → ClassId} {S : pS} {a : Nat} (h : S.1 a = 26) (r : Nat → Option Nat) (b : Nat) : va_up (pF cy S) a (.inl (cy 6, 1025, .inr (.inr (.inr (.inr r))))) b = pF cy (S.1, S.2.1, S.2.2.1, va_up S.2.2.2 a r) b := by
  by_cases hb : b = a
  · subst hb; rw [va_up_self, pF_26 (S := (S.1, S.2.1, S.2.2.1, va_up S.2.2.2 b r)) h]; dsimp only; rw [va_up_self]
  · rw [va_up_ne _ _ hb]; unfold pF; rw [show (S.1, S.2.1, S.2.2.1, va_up S.2.2.2 a r).2.2.2 b = S.2.2.2 b from va_up_ne _ _ hb]
theorem pF_27 {cy : Nat → ClassId} {S : pS} {a : Nat} (h : S.1 a = 27) : pF cy S a = .inl (cy 7, 4, .inr (.inr (.inr (.inr (S.2.2.2 a))))) := by simp [pF, pR, h]
theorem pU_27 {cy : Nat → ClassId} {S : pS} {a : Nat} (h : S.1 a = 27) (r : Nat → Option Nat) (b : Nat) : va_up (pF cy S) a (.inl (cy 7, 4, .inr (.inr (.inr (.inr r))))) b = pF cy (S.1, S.2.1, S.2.2.1, va_up S.2.2.2 a r) b := by
  by_cases hb : b = a
  · subst hb; rw [va_up_self, pF_27 (S := (S.1, S.2.1, S.2.2.1, va_up S.2.2.2 b r)) h]; dsimp only; rw [va_up_self]
  · rw [va_up_ne _ _ hb]; unfold pF; rw [show (S.1, S.2.1, S.2.2.1, va_up S.2.2.2 a r).2.2.2 b = S.2.2.2 b from va_up_ne _ _ hb]
theorem pF_28 {cy : Nat → ClassId} {S : pS} {a : Nat} (h : S.1 a = 28) : pF cy S a = .inl (cy 8, 4, .inr (.inr (.inr (.inr (S.2.2.2 a))))) := by simp [pF, pR, h]
theorem pU_28 {cy : Nat → ClassId} {S : pS} {a : Nat} (h : S.1 a = 28) (r : Nat → Option Nat) (b : Nat) : va_up (pF cy S) a (.inl (cy 8, 4, .inr (.inr (.inr (.inr r))))) b = pF cy (S.1, S.2.1, S.2.2.1, va_up S.2.2.2 a r) b := by
  by_cases hb : b = a
  · subst hb; rw [va_up_self, pF_28 (S := (S.1, S.2.1, S.2.2.1, va_up S.2.2.2 b r)) h]; dsimp only; rw [va_up_self]
  · rw [va_up_ne _ _ hb]; unfold pF; rw [show (S.1, S.2.1, S.2.2.1, va_up S.2.2.2 a r).2.2.2 b = S.2.2.2 b from va_up_ne _ _ hb]
theorem pF_29 {cy : Nat → ClassId} {S : pS} {a : Nat} (h : S.1 a = 29) : pF cy S a = .inl (cy 9, 4, .inr (.inr (.inr (.inr (S.2.2.2 a))))) := by simp [pF, pR, h]
theorem pU_29 {cy : Nat → ClassId} {S : pS} {a : Nat} (h : S.1 a = 29) (r : Nat → Option Nat) (b : Nat) : va_up (pF cy S) a (.inl (cy 9, 4, .inr (.inr (.inr (.inr r))))) b = pF cy (S.1, S.2.1, S.2.2.1, va_up S.2.2.2 a r) b := by
  by_cases hb : b = a
  · subst hb; rw [va_up_self, pF_29 (S := (S.1, S.2.1, S.2.2.1, va_up S.2.2.2 b r)) h]; dsimp only; rw [va_up_self]
  · rw [va_up_ne _ _ hb]; unfold pF; rw [show (S.1, S.2.1, S.2.2.1, va_up S.2.2.2 a r).2.2.2 b = S.2.2.2 b from va_up_ne _ _ hb]
theorem pF_30 {cy : Nat → ClassId} {S : pS} {a : Nat} (h : S.1 a = 30) : pF cy S a = .inl (cy 10, 8, .inr (.inr (.inr (.inr (S.2.2.2 a))))) := by simp [pF, pR, h]
theorem pU_30 {cy : Nat → ClassId} {S : pS} {a : Nat} (h : S.1 a = 30) (r : Nat → Option Nat) (b : Nat) : va_up (pF cy S) a (.inl (cy 10, 8, .inr (.inr (.inr (.inr r))))) b = pF cy (S.1, S.2.1, S.2.2.1, va_up S.2.2.2 a r) b := by
  by_cases hb : b = a
  · subst hb; rw [va_up_self, pF_30 (S := (S.1, S.2.1, S.2.2.1, va_up S.2.2.2 b r)) h]; dsimp only; rw [va_up_self]
  · rw [va_up_ne _ _ hb]; unfold pF; rw [show (S.1, S.2.1, S.2.2.1, va_up S.2.2.2 a r).2.2.2 b = S.2.2.2 b from va_up_ne _ _ hb]
section XA
variable {p : Program} {l : Launch} {e : Env} {R : Room} {s : State} {m : MethodId} {args : Array Value} {below : List Frame} {meth : Method} {c : Code} {H H0 : Heap} {locs : List Loc} {cells slots pc : Nat} {Q : State → Prop} {D : va_G} {cy : Nat → ClassId} {A : Nat → Prop} {ls : Array Slot} {rest : List Value} {cc : ByteArray} {X : va_W} {L : List Nat} {S : pS}
theorem p_ld20 (hexec : p.tables.exec = Jvm.exec) (hb : c.code = cc) (hK : xK D cy s) (hP : va_P D vwCl (X ++ va_pl L (pF cy S)) H) {a : Nat} (hL : a ∈ L) (hk : S.1 a = 20) {i : Int32} (hin : vp_in i 15) (hdg : decode cc pc = .ok (.baload, 1)) (kk : W p l e R s m args below meth c H locs cells slots Q (F0 m (pc + 1) ls (.int (S.2.2.1 a i.toNatClampNeg) :: rest))) : W p l e R s m args below meth c H locs cells slots Q (F0 m pc ls (.int i :: .ref a :: rest)) := by
  obtain ⟨q0, h0⟩ := va_pl_get (X := X) (f := pF cy S) hL
  rw [pF_20 hk] at h0
  exact va_bald hexec hb hK.1 hP q0 0 h0 rfl hin hdg kk
theorem p_st20 (hexec : p.tables.exec = Jvm.exec) (hb : c.code = cc) (hK : xK D cy s) (hP : va_P D vwCl (X ++ va_pl L (pF cy S)) H) (hD : va_D A (X ++ va_pl L (pF cy S))) (hS : va_S A H0 H locs) {a : Nat} (hL : a ∈ L) (hk : S.1 a = 20) {i x : Int32} (hin : vp_in i 15) (hdg : decode cc pc = .ok (.bastore, 1)) (kk : ∀ (H1 : Heap) (locs1 : List Loc), va_P D vwCl (X ++ va_pl L (pF cy (S.1, S.2.1, va_up S.2.2.1 a (upd (S.2.2.1 a) i.toNatClampNeg (vp_nar .byte x)), S.2.2.2))) H1 → va_D A (X ++ va_pl L (pF cy (S.1, S.2.1, va_up S.2.2.1 a (upd (S.2.2.1 a) i.toNatClampNeg (vp_nar .byte x)), S.2.2.2))) → va_S A H0 H1 locs1 → W p l e R s m args below meth c H1 locs1 cells slots Q (F0 m (pc + 1) ls rest)) : W p l e R s m args below meth c H locs cells slots Q (F0 m pc ls (.int x :: .int i :: .ref a :: rest)) := by
  obtain ⟨q0, h0⟩ := va_pl_get (X := X) (f := pF cy S) hL
  have h1 := h0
  rw [pF_20 hk] at h1
  refine va_bast hexec hb hK.1 hP hD hS q0 0 h1 rfl hin hdg (fun H1 locs1 hP1 hD1 hS1 => ?_)
  have e1 := (va_pl_set (e := .inl (cy 0, 15, .inl (upd (S.2.2.1 a) i.toNatClampNeg (vp_nar .byte x)))) hD hL h0).trans (congrArg (fun z => X ++ z) (va_pl_congr (fun b => pU_20 hk (upd (S.2.2.1 a) i.toNatClampNeg (vp_nar .byte x)) b)))
  rw [e1] at hP1 hD1
  exact kk H1 locs1 hP1 hD1 hS1
theorem p_ld21 (hexec : p.tables.exec = Jvm.exec) (hb : c.code = cc) (hK : xK D cy s) (hP : va_P D vwCl (X ++ va_pl L (pF cy S)) H) {a : Nat} (hL : a ∈ L) (hk : S.1 a = 21) {i : Int32} (hin : vp_in i 200) (hdg : decode cc pc = .ok (.baload, 1)) (kk : W p l e R s m args below meth c H locs cells slots Q (F0 m (pc + 1) ls (.int (S.2.2.1 a i.toNatClampNeg) :: rest))) : W p l e R s m args below meth c H locs cells slots Q (F0 m pc ls (.int i :: .ref a :: rest)) := by
  obtain ⟨q0, h0⟩ := va_pl_get (X := X) (f := pF cy S) hL
  rw [pF_21 hk] at h0
  exact va_bald hexec hb hK.1 hP q0 0 h0 rfl hin hdg kk
theorem p_st21 (hexec : p.tables.exec = Jvm.exec) (hb : c.code = cc) (hK : xK D cy s) (hP : va_P D vwCl (X ++ va_pl L (pF cy S)) H) (hD : va_D A (X ++ va_pl L (pF cy S))) (hS : va_S A H0 H locs) {a : Nat} (hL : a ∈ L) (hk : S.1 a = 21) {i x : Int32} (hin : vp_in i 200) (hdg : decode cc pc = .ok (.bastore, 1)) (kk : ∀ (H1 : Heap) (locs1 : List Loc), va_P D vwCl (X ++ va_pl L (pF cy (S.1, S.2.1, va_up S.2.2.1 a (upd (S.2.2.1 a) i.toNatClampNeg (vp_nar .byte x)), S.2.2.2))) H1 → va_D A (X ++ va_pl L (pF cy (S.1, S.2.1, va_up S.2.2.1 a (upd (S.2.2.1 a) i.toNatClampNeg (vp_nar .byte x)), S.2.2.2))) → va_S A H0 H1 locs1 → W p l e R s m args below meth c H1 locs1 cells slots Q (F0 m (pc + 1) ls rest)) : W p l e R s m args below meth c H locs cells slots Q (F0 m pc ls (.int x :: .int i :: .ref a :: rest)) := by
  obtain ⟨q0, h0⟩ := va_pl_get (X := X) (f := pF cy S) hL
  have h1 := h0
  rw [pF_21 hk] at h1
  refine va_bast hexec hb hK.1 hP hD hS q0 0 h1 rfl hin hdg (fun H1 locs1 hP1 hD1 hS1 => ?_)
  have e1 := (va_pl_set (e := .inl (cy 0, 200, .inl (upd (S.2.2.1 a) i.toNatClampNeg (vp_nar .byte x)))) hD hL h0).trans (congrArg (fun z => X ++ z) (va_pl_congr (fun b => pU_21 hk (upd (S.2.2.1 a) i.toNatClampNeg (vp_nar .byte x)) b)))
  rw [e1] at hP1 hD1
  exact kk H1 locs1 hP1 hD1 hS1
theorem p_ld22 (hexec : p.tables.exec = Jvm.exec) (hb : c.code = cc) (hK : xK D cy s) (hP : va_P D vwCl (X ++ va_pl L (pF cy S)) H) {a : Nat} (hL : a ∈ L) (hk : S.1 a = 22) {i : Int32} (hin : vp_in i 17) (hdg : decode cc pc = .ok (.iaload, 1)) (kk : W p l e R s m args below meth c H locs cells slots Q (F0 m (pc + 1) ls (.int (S.2.2.1 a i.toNatClampNeg) :: rest))) : W p l e R s m args below meth c H locs cells slots Q (F0 m pc ls (.int i :: .ref a :: rest)) := by
  obtain ⟨q0, h0⟩ := va_pl_get (X := X) (f := pF cy S) hL
  rw [pF_22 hk] at h0
  exact va_iald hexec hb hK.1 hP q0 1 h0 rfl hin hdg kk
theorem p_st22 (hexec : p.tables.exec = Jvm.exec) (hb : c.code = cc) (hK : xK D cy s) (hP : va_P D vwCl (X ++ va_pl L (pF cy S)) H) (hD : va_D A (X ++ va_pl L (pF cy S))) (hS : va_S A H0 H locs) {a : Nat} (hL : a ∈ L) (hk : S.1 a = 22) {i x : Int32} (hin : vp_in i 17) (hdg : decode cc pc = .ok (.iastore, 1)) (kk : ∀ (H1 : Heap) (locs1 : List Loc), va_P D vwCl (X ++ va_pl L (pF cy (S.1, S.2.1, va_up S.2.2.1 a (upd (S.2.2.1 a) i.toNatClampNeg x), S.2.2.2))) H1 → va_D A (X ++ va_pl L (pF cy (S.1, S.2.1, va_up S.2.2.1 a (upd (S.2.2.1 a) i.toNatClampNeg x), S.2.2.2))) → va_S A H0 H1 locs1 → W p l e R s m args below meth c H1 locs1 cells slots Q (F0 m (pc + 1) ls rest)) : W p l e R s m args below meth c H locs cells slots Q (F0 m pc ls (.int x :: .int i :: .ref a :: rest)) := by
  obtain ⟨q0, h0⟩ := va_pl_get (X := X) (f := pF cy S) hL
  have h1 := h0
  rw [pF_22 hk] at h1
  refine va_iast hexec hb hK.1 hP hD hS q0 1 h1 rfl hin hdg (fun H1 locs1 hP1 hD1 hS1 => ?_)
  have e1 := (va_pl_set (e := .inl (cy 1, 17, .inl (upd (S.2.2.1 a) i.toNatClampNeg x))) hD hL h0).trans (congrArg (fun z => X ++ z) (va_pl_congr (fun b => pU_22 hk (upd (S.2.2.1 a) i.toNatClampNeg x) b)))
  rw [e1] at hP1 hD1
  exact kk H1 locs1 hP1 hD1 hS1
theorem p_ld23 (hexec : p.tables.exec = Jvm.exec) (hb : c.code = cc) (hK : xK D cy s) (hP : va_P D vwCl (X ++ va_pl L (pF cy S)) H) {a : Nat} (hL : a ∈ L) (hk : S.1 a = 23) {i : Int32} (hin : vp_in i 10) (hdg : decode cc pc = .ok (.iaload, 1)) (kk : W p l e R s m args below meth c H locs cells slots Q (F0 m (pc + 1) ls (.int (S.2.2.1 a i.toNatClampNeg) :: rest))) : W p l e R s m args below meth c H locs cells slots Q (F0 m pc ls (.int i :: .ref a :: rest)) := by
  obtain ⟨q0, h0⟩ := va_pl_get (X := X) (f := pF cy S) hL
  rw [pF_23 hk] at h0
  exact va_iald hexec hb hK.1 hP q0 1 h0 rfl hin hdg kk
theorem p_st23 (hexec : p.tables.exec = Jvm.exec) (hb : c.code = cc) (hK : xK D cy s) (hP : va_P D vwCl (X ++ va_pl L (pF cy S)) H) (hD : va_D A (X ++ va_pl L (pF cy S))) (hS : va_S A H0 H locs) {a : Nat} (hL : a ∈ L) (hk : S.1 a = 23) {i x : Int32} (hin : vp_in i 10) (hdg : decode cc pc = .ok (.iastore, 1)) (kk : ∀ (H1 : Heap) (locs1 : List Loc), va_P D vwCl (X ++ va_pl L (pF cy (S.1, S.2.1, va_up S.2.2.1 a (upd (S.2.2.1 a) i.toNatClampNeg x), S.2.2.2))) H1 → va_D A (X ++ va_pl L (pF cy (S.1, S.2.1, va_up S.2.2.1 a (upd (S.2.2.1 a) i.toNatClampNeg x), S.2.2.2))) → va_S A H0 H1 locs1 → W p l e R s m args below meth c H1 locs1 cells slots Q (F0 m (pc + 1) ls rest)) : W p l e R s m args below meth c H locs cells slots Q (F0 m pc ls (.int x :: .int i :: .ref a :: rest)) := by
  obtain ⟨q0, h0⟩ := va_pl_get (X := X) (f := pF cy S) hL
  have h1 := h0
  rw [pF_23 hk] at h1
  refine va_iast hexec hb hK.1 hP hD hS q0 1 h1 rfl hin hdg (fun H1 locs1 hP1 hD1 hS1 => ?_)
  have e1 := (va_pl_set (e := .inl (cy 1, 10, .inl (upd (S.2.2.1 a) i.toNatClampNeg x))) hD hL h0).trans (congrArg (fun z => X ++ z) (va_pl_congr (fun b => pU_23 hk (upd (S.2.2.1 a) i.toNatClampNeg x) b)))
  rw [e1] at hP1 hD1
  exact kk H1 locs1 hP1 hD1 hS1
theorem p_ld24 (hexec : p.tables.exec = Jvm.exec) (hb : c.code = cc) (hK : xK D cy s) (hP : va_P D vwCl (X ++ va_pl L (pF cy S)) H) {a : Nat} (hL : a ∈ L) (hk : S.1 a = 24) {i : Int32} (hin : vp_in i 24) (hdg : decode cc pc = .ok (.aaload, 1)) (kk : W p l e R s m args below meth c H locs cells slots Q (F0 m (pc + 1) ls (va_rf (S.2.2.2 a i.toNatClampNeg) :: rest))) : W p l e R s m args below meth c H locs cells slots Q (F0 m pc ls (.int i :: .ref a :: rest)) := by
  obtain ⟨q0, h0⟩ := va_pl_get (X := X) (f := pF cy S) hL
  rw [pF_24 hk] at h0
  exact va_aldq hexec hb hK.1 hP q0 4 h0 rfl hin hdg kk
theorem p_st24 (hexec : p.tables.exec = Jvm.exec) (hb : c.code = cc) (hK : xK D cy s) (hP : va_P D vwCl (X ++ va_pl L (pF cy S)) H) (hD : va_D A (X ++ va_pl L (pF cy S))) (hS : va_S A H0 H locs) {a v : Nat} (hL : a ∈ L) (hk : S.1 a = 24) (hLv : v ∈ L) (hkv : S.1 v = 2) {i : Int32} (hin : vp_in i 24) (hdg : decode cc pc = .ok (.aastore, 1)) (kk : ∀ (H1 : Heap) (locs1 : List Loc), va_P D vwCl (X ++ va_pl L (pF cy (S.1, S.2.1, S.2.2.1, va_up S.2.2.2 a (va_up (S.2.2.2 a) i.toNatClampNeg (some v))))) H1 → va_D A (X ++ va_pl L (pF cy (S.1, S.2.1, S.2.2.1, va_up S.2.2.2 a (va_up (S.2.2.2 a) i.toNatClampNeg (some v))))) → va_S A H0 H1 locs1 → W p l e R s m args below meth c H1 locs1 cells slots Q (F0 m (pc + 1) ls rest)) : W p l e R s m args below meth c H locs cells slots Q (F0 m pc ls (.ref v :: .int i :: .ref a :: rest)) := by
  obtain ⟨q0, h0⟩ := va_pl_get (X := X) (f := pF cy S) hL
  obtain ⟨q1, h2⟩ := va_pl_get (X := X) (f := pF cy S) hLv
  have h1 := h0
  rw [pF_24 hk] at h1
  rw [pF_obj hkv (by decide)] at h2
  refine va_astq hexec hb hK.1 hP hD hS q0 4 q1 2 h1 rfl h2 rfl hin hdg (fun H1 locs1 hP1 hD1 hS1 => ?_)
  have e1 := (va_pl_set (e := .inl (cy 4, 24, .inr (.inr (.inr (.inr (va_up (S.2.2.2 a) i.toNatClampNeg (some v))))))) hD hL h0).trans (congrArg (fun z => X ++ z) (va_pl_congr (fun b => pU_24 hk (va_up (S.2.2.2 a) i.toNatClampNeg (some v)) b)))
  rw [e1] at hP1 hD1
  exact kk H1 locs1 hP1 hD1 hS1
theorem p_ld25 (hexec : p.tables.exec = Jvm.exec) (hb : c.code = cc) (hK : xK D cy s) (hP : va_P D vwCl (X ++ va_pl L (pF cy S)) H) {a : Nat} (hL : a ∈ L) (hk : S.1 a = 25) {i : Int32} (hin : vp_in i 8) (hdg : decode cc pc = .ok (.aaload, 1)) (kk : W p l e R s m args below meth c H locs cells slots Q (F0 m (pc + 1) ls (va_rf (S.2.2.2 a i.toNatClampNeg) :: rest))) : W p l e R s m args below meth c H locs cells slots Q (F0 m pc ls (.int i :: .ref a :: rest)) := by
  obtain ⟨q0, h0⟩ := va_pl_get (X := X) (f := pF cy S) hL
  rw [pF_25 hk] at h0
  exact va_aldq hexec hb hK.1 hP q0 5 h0 rfl hin hdg kk
theorem p_st25 (hexec : p.tables.exec = Jvm.exec) (hb : c.code = cc) (hK : xK D cy s) (hP : va_P D vwCl (X ++ va_pl L (pF cy S)) H) (hD : va_D A (X ++ va_pl L (pF cy S))) (hS : va_S A H0 H locs) {a v : Nat} (hL : a ∈ L) (hk : S.1 a = 25) (hLv : v ∈ L) (hkv : S.1 v = 3) {i : Int32} (hin : vp_in i 8) (hdg : decode cc pc = .ok (.aastore, 1)) (kk : ∀ (H1 : Heap) (locs1 : List Loc), va_P D vwCl (X ++ va_pl L (pF cy (S.1, S.2.1, S.2.2.1, va_up S.2.2.2 a (va_up (S.2.2.2 a) i.toNatClampNeg (some v))))) H1 → va_D A (X ++ va_pl L (pF cy (S.1, S.2.1, S.2.2.1, va_up S.2.2.2 a (va_up (S.2.2.2 a) i.toNatClampNeg (some v))))) → va_S A H0 H1 locs1 → W p l e R s m args below meth c H1 locs1 cells slots Q (F0 m (pc + 1) ls rest)) : W p l e R s m args below meth c H locs cells slots Q (F0 m pc ls (.ref v :: .int i :: .ref a :: rest)) := by
  obtain ⟨q0, h0⟩ := va_pl_get (X := X) (f := pF cy S) hL
  obtain ⟨q1, h2⟩ := va_pl_get (X := X) (f := pF cy S) hLv
  have h1 := h0
  rw [pF_25 hk] at h1
  rw [pF_obj hkv (by decide)] at h2
  refine va_astq hexec hb hK.1 hP hD hS q0 5 q1 3 h1 rfl h2 rfl hin hdg (fun H1 locs1 hP1 hD1 hS1 => ?_)
  have e1 := (va_pl_set (e := .inl (cy 5, 8, .inr (.inr (.inr (.inr (va_up (S.2.2.2 a) i.toNatClampNeg (some v))))))) hD hL h0).trans (congrArg (fun z => X ++ z) (va_pl_congr (fun b => pU_25 hk (va_up (S.2.2.2 a) i.toNatClampNeg (some v)) b)))
  rw [e1] at hP1 hD1
  exact kk H1 locs1 hP1 hD1 hS1
theorem p_ld26 (hexec : p.tables.exec = Jvm.exec) (hb : c.code = cc) (hK : xK D cy s) (hP : va_P D vwCl (X ++ va_pl L (pF cy S)) H) {a : Nat} (hL : a ∈ L) (hk : S.1 a = 26) {i : Int32} (hin : vp_in i 1025) (hdg : decode cc pc = .ok (.aaload, 1)) (kk : W p l e R s m args below meth c H locs cells slots Q (F0 m (pc + 1) ls (va_rf (S.2.2.2 a i.toNatClampNeg) :: rest))) : W p l e R s m args below meth c H locs cells slots Q (F0 m pc ls (.int i :: .ref a :: rest)) := by
  obtain ⟨q0, h0⟩ := va_pl_get (X := X) (f := pF cy S) hL
  rw [pF_26 hk] at h0
  exact va_aldq hexec hb hK.1 hP q0 6 h0 rfl hin hdg kk
theorem p_st26 (hexec : p.tables.exec = Jvm.exec) (hb : c.code = cc) (hK : xK D cy s) (hP : va_P D vwCl (X ++ va_pl L (pF cy S)) H) (hD : va_D A (X ++ va_pl L (pF cy S))) (hS : va_S A H0 H locs) {a v : Nat} (hL : a ∈ L) (hk : S.1 a = 26) (hLv : v ∈ L) (hkv : S.1 v = 5) {i : Int32} (hin : vp_in i 1025) (hdg : decode cc pc = .ok (.aastore, 1)) (kk : ∀ (H1 : Heap) (locs1 : List Loc), va_P D vwCl (X ++ va_pl L (pF cy (S.1, S.2.1, S.2.2.1, va_up S.2.2.2 a (va_up (S.2.2.2 a) i.toNatClampNeg (some v))))) H1 → va_D A (X ++ va_pl L (pF cy (S.1, S.2.1, S.2.2.1, va_up S.2.2.2 a (va_up (S.2.2.2 a) i.toNatClampNeg (some v))))) → va_S A H0 H1 locs1 → W p l e R s m args below meth c H1 locs1 cells slots Q (F0 m (pc + 1) ls rest)) : W p l e R s m args below meth c H locs cells slots Q (F0 m pc ls (.ref v :: .int i :: .ref a :: rest)) := by
  obtain ⟨q0, h0⟩ := va_pl_get (X := X) (f := pF cy S) hL
  obtain ⟨q1, h2⟩ := va_pl_get (X := X) (f := pF cy S) hLv
  have h1 := h0
  rw [pF_26 hk] at h1
  rw [pF_obj hkv (by decide)] at h2
  refine va_astq hexec hb hK.1 hP hD hS q0 6 q1 5 h1 rfl h2 rfl hin hdg (fun H1 locs1 hP1 hD1 hS1 => ?_)
  have e1 := (va_pl_set (e := .inl (cy 6, 1025, .inr (.inr (.inr (.inr (va_up (S.2.2.2 a) i.toNatClampNeg (some v))))))) hD hL h0).trans (congrArg (fun z => X ++ z) (va_pl_congr (fun b => pU_26 hk (va_up (S.2.2.2 a) i.toNatClampNeg (some v)) b)))
  rw [e1] at hP1 hD1
  exact kk H1 locs1 hP1 hD1 hS1
theorem p_ld27 (hexec : p.tables.exec = Jvm.exec) (hb : c.code = cc) (hK : xK D cy s) (hP : va_P D vwCl (X ++ va_pl L (pF cy S)) H) {a : Nat} (hL : a ∈ L) (hk : S.1 a = 27) {i : Int32} (hin : vp_in i 4) (hdg : decode cc pc = .ok (.aaload, 1)) (kk : W p l e R s m args below meth c H locs cells slots Q (F0 m (pc + 1) ls (va_rf (S.2.2.2 a i.toNatClampNeg) :: rest))) : W p l e R s m args below meth c H locs cells slots Q (F0 m pc ls (.int i :: .ref a :: rest)) := by
  obtain ⟨q0, h0⟩ := va_pl_get (X := X) (f := pF cy S) hL
  rw [pF_27 hk] at h0
  exact va_aldq hexec hb hK.1 hP q0 7 h0 rfl hin hdg kk
theorem p_st27 (hexec : p.tables.exec = Jvm.exec) (hb : c.code = cc) (hK : xK D cy s) (hP : va_P D vwCl (X ++ va_pl L (pF cy S)) H) (hD : va_D A (X ++ va_pl L (pF cy S))) (hS : va_S A H0 H locs) {a v : Nat} (hL : a ∈ L) (hk : S.1 a = 27) (hLv : v ∈ L) (hkv : S.1 v = 6) {i : Int32} (hin : vp_in i 4) (hdg : decode cc pc = .ok (.aastore, 1)) (kk : ∀ (H1 : Heap) (locs1 : List Loc), va_P D vwCl (X ++ va_pl L (pF cy (S.1, S.2.1, S.2.2.1, va_up S.2.2.2 a (va_up (S.2.2.2 a) i.toNatClampNeg (some v))))) H1 → va_D A (X ++ va_pl L (pF cy (S.1, S.2.1, S.2.2.1, va_up S.2.2.2 a (va_up (S.2.2.2 a) i.toNatClampNeg (some v))))) → va_S A H0 H1 locs1 → W p l e R s m args below meth c H1 locs1 cells slots Q (F0 m (pc + 1) ls rest)) : W p l e R s m args below meth c H locs cells slots Q (F0 m pc ls (.ref v :: .int i :: .ref a :: rest)) := by
  obtain ⟨q0, h0⟩ := va_pl_get (X := X) (f := pF cy S) hL
  obtain ⟨q1, h2⟩ := va_pl_get (X := X) (f := pF cy S) hLv
  have h1 := h0
  rw [pF_27 hk] at h1
  rw [pF_obj hkv (by decide)] at h2
  refine va_astq hexec hb hK.1 hP hD hS q0 7 q1 6 h1 rfl h2 rfl hin hdg (fun H1 locs1 hP1 hD1 hS1 => ?_)
  have e1 := (va_pl_set (e := .inl (cy 7, 4, .inr (.inr (.inr (.inr (va_up (S.2.2.2 a) i.toNatClampNeg (some v))))))) hD hL h0).trans (congrArg (fun z => X ++ z) (va_pl_congr (fun b => pU_27 hk (va_up (S.2.2.2 a) i.toNatClampNeg (some v)) b)))
  rw [e1] at hP1 hD1
  exact kk H1 locs1 hP1 hD1 hS1
theorem p_ld28 (hexec : p.tables.exec = Jvm.exec) (hb : c.code = cc) (hK : xK D cy s) (hP : va_P D vwCl (X ++ va_pl L (pF cy S)) H) {a : Nat} (hL : a ∈ L) (hk : S.1 a = 28) {i : Int32} (hin : vp_in i 4) (hdg : decode cc pc = .ok (.aaload, 1)) (kk : W p l e R s m args below meth c H locs cells slots Q (F0 m (pc + 1) ls (va_rf (S.2.2.2 a i.toNatClampNeg) :: rest))) : W p l e R s m args below meth c H locs cells slots Q (F0 m pc ls (.int i :: .ref a :: rest)) := by
  obtain ⟨q0, h0⟩ := va_pl_get (X := X) (f := pF cy S) hL
  rw [pF_28 hk] at h0
  exact va_aldq hexec hb hK.1 hP q0 8 h0 rfl hin hdg kk
theorem p_st28 (hexec : p.tables.exec = Jvm.exec) (hb : c.code = cc) (hK : xK D cy s) (hP : va_P D vwCl (X ++ va_pl L (pF cy S)) H) (hD : va_D A (X ++ va_pl L (pF cy S))) (hS : va_S A H0 H locs) {a v : Nat} (hL : a ∈ L) (hk : S.1 a = 28) (hLv : v ∈ L) (hkv : S.1 v = 8) {i : Int32} (hin : vp_in i 4) (hdg : decode cc pc = .ok (.aastore, 1)) (kk : ∀ (H1 : Heap) (locs1 : List Loc), va_P D vwCl (X ++ va_pl L (pF cy (S.1, S.2.1, S.2.2.1, va_up S.2.2.2 a (va_up (S.2.2.2 a) i.toNatClampNeg (some v))))) H1 → va_D A (X ++ va_pl L (pF cy (S.1, S.2.1, S.2.2.1, va_up S.2.2.2 a (va_up (S.2.2.2 a) i.toNatClampNeg (some v))))) → va_S A H0 H1 locs1 → W p l e R s m args below meth c H1 locs1 cells slots Q (F0 m (pc + 1) ls rest)) : W p l e R s m args below meth c H locs cells slots Q (F0 m pc ls (.ref v :: .int i :: .ref a :: rest)) := by
  obtain ⟨q0, h0⟩ := va_pl_get (X := X) (f := pF cy S) hL
  obtain ⟨q1, h2⟩ := va_pl_get (X := X) (f := pF cy S) hLv
  have h1 := h0
  rw [pF_28 hk] at h1
  rw [pF_obj hkv (by decide)] at h2
  refine va_astq hexec hb hK.1 hP hD hS q0 8 q1 8 h1 rfl h2 rfl hin hdg (fun H1 locs1 hP1 hD1 hS1 => ?_)
  have e1 := (va_pl_set (e := .inl (cy 8, 4, .inr (.inr (.inr (.inr (va_up (S.2.2.2 a) i.toNatClampNeg (some v))))))) hD hL h0).trans (congrArg (fun z => X ++ z) (va_pl_congr (fun b => pU_28 hk (va_up (S.2.2.2 a) i.toNatClampNeg (some v)) b)))
  rw [e1] at hP1 hD1
  exact kk H1 locs1 hP1 hD1 hS1
theorem p_ld29 (hexec : p.tables.exec = Jvm.exec) (hb : c.code = cc) (hK : xK D cy s) (hP : va_P D vwCl (X ++ va_pl L (pF cy S)) H) {a : Nat} (hL : a ∈ L) (hk : S.1 a = 29) {i : Int32} (hin : vp_in i 4) (hdg : decode cc pc = .ok (.aaload, 1)) (kk : W p l e R s m args below meth c H locs cells slots Q (F0 m (pc + 1) ls (va_rf (S.2.2.2 a i.toNatClampNeg) :: rest))) : W p l e R s m args below meth c H locs cells slots Q (F0 m pc ls (.int i :: .ref a :: rest)) := by
  obtain ⟨q0, h0⟩ := va_pl_get (X := X) (f := pF cy S) hL
  rw [pF_29 hk] at h0
  exact va_aldq hexec hb hK.1 hP q0 9 h0 rfl hin hdg kk
theorem p_st29 (hexec : p.tables.exec = Jvm.exec) (hb : c.code = cc) (hK : xK D cy s) (hP : va_P D vwCl (X ++ va_pl L (pF cy S)) H) (hD : va_D A (X ++ va_pl L (pF cy S))) (hS : va_S A H0 H locs) {a v : Nat} (hL : a ∈ L) (hk : S.1 a = 29) (hLv : v ∈ L) (hkv : S.1 v = 9) {i : Int32} (hin : vp_in i 4) (hdg : decode cc pc = .ok (.aastore, 1)) (kk : ∀ (H1 : Heap) (locs1 : List Loc), va_P D vwCl (X ++ va_pl L (pF cy (S.1, S.2.1, S.2.2.1, va_up S.2.2.2 a (va_up (S.2.2.2 a) i.toNatClampNeg (some v))))) H1 → va_D A (X ++ va_pl L (pF cy (S.1, S.2.1, S.2.2.1, va_up S.2.2.2 a (va_up (S.2.2.2 a) i.toNatClampNeg (some v))))) → va_S A H0 H1 locs1 → W p l e R s m args below meth c H1 locs1 cells slots Q (F0 m (pc + 1) ls rest)) : W p l e R s m args below meth c H locs cells slots Q (F0 m pc ls (.ref v :: .int i :: .ref a :: rest)) := by
  obtain ⟨q0, h0⟩ := va_pl_get (X := X) (f := pF cy S) hL
  obtain ⟨q1, h2⟩ := va_pl_get (X := X) (f := pF cy S) hLv
  have h1 := h0
  rw [pF_29 hk] at h1
  rw [pF_obj hkv (by decide)] at h2
  refine va_astq hexec hb hK.1 hP hD hS q0 9 q1 9 h1 rfl h2 rfl hin hdg (fun H1 locs1 hP1 hD1 hS1 => ?_)
  have e1 := (va_pl_set (e := .inl (cy 9, 4, .inr (.inr (.inr (.inr (va_up (S.2.2.2 a) i.toNatClampNeg (some v))))))) hD hL h0).trans (congrArg (fun z => X ++ z) (va_pl_congr (fun b => pU_29 hk (va_up (S.2.2.2 a) i.toNatClampNeg (some v)) b)))
  rw [e1] at hP1 hD1
  exact kk H1 locs1 hP1 hD1 hS1
theorem p_ld30 (hexec : p.tables.exec = Jvm.exec) (hb : c.code = cc) (hK : xK D cy s) (hP : va_P D vwCl (X ++ va_pl L (pF cy S)) H) {a : Nat} (hL : a ∈ L) (hk : S.1 a = 30) {i : Int32} (hin : vp_in i 8) (hdg : decode cc pc = .ok (.aaload, 1)) (kk : W p l e R s m args below meth c H locs cells slots Q (F0 m (pc + 1) ls (va_rf (S.2.2.2 a i.toNatClampNeg) :: rest))) : W p l e R s m args below meth c H locs cells slots Q (F0 m pc ls (.int i :: .ref a :: rest)) := by
  obtain ⟨q0, h0⟩ := va_pl_get (X := X) (f := pF cy S) hL
  rw [pF_30 hk] at h0
  exact va_aldq hexec hb hK.1 hP q0 10 h0 rfl hin hdg kk
theorem p_st30 (hexec : p.tables.exec = Jvm.exec) (hb : c.code = cc) (hK : xK D cy s) (hP : va_P D vwCl (X ++ va_pl L (pF cy S)) H) (hD : va_D A (X ++ va_pl L (pF cy S))) (hS : va_S A H0 H locs) {a v : Nat} (hL : a ∈ L) (hk : S.1 a = 30) (hLv : v ∈ L) (hkv : S.1 v = 10) {i : Int32} (hin : vp_in i 8) (hdg : decode cc pc = .ok (.aastore, 1)) (kk : ∀ (H1 : Heap) (locs1 : List Loc), va_P D vwCl (X ++ va_pl L (pF cy (S.1, S.2.1, S.2.2.1, va_up S.2.2.2 a (va_up (S.2.2.2 a) i.toNatClampNeg (some v))))) H1 → va_D A (X ++ va_pl L (pF cy (S.1, S.2.1, S.2.2.1, va_up S.2.2.2 a (va_up (S.2.2.2 a) i.toNatClampNeg (some v))))) → va_S A H0 H1 locs1 → W p l e R s m args below meth c H1 locs1 cells slots Q (F0 m (pc + 1) ls rest)) : W p l e R s m args below meth c H locs cells slots Q (F0 m pc ls (.ref v :: .int i :: .ref a :: rest)) := by
  obtain ⟨q0, h0⟩ := va_pl_get (X := X) (f := pF cy S) hL
  obtain ⟨q1, h2⟩ := va_pl_get (X := X) (f := pF cy S) hLv
  have h1 := h0
  rw [pF_30 hk] at h1
  rw [pF_obj hkv (by decide)] at h2
  refine va_astq hexec hb hK.1 hP hD hS q0 10 q1 10 h1 rfl h2 rfl hin hdg (fun H1 locs1 hP1 hD1 hS1 => ?_)
  have e1 := (va_pl_set (e := .inl (cy 10, 8, .inr (.inr (.inr (.inr (va_up (S.2.2.2 a) i.toNatClampNeg (some v))))))) hD hL h0).trans (congrArg (fun z => X ++ z) (va_pl_congr (fun b => pU_30 hk (va_up (S.2.2.2 a) i.toNatClampNeg (some v)) b)))
  rw [e1] at hP1 hD1
  exact kk H1 locs1 hP1 hD1 hS1
end XA
