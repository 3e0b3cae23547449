theorem p_inl {X pl : va_W} {i : Nat} {x : Nat × va_E} (h : X[i]? = some x) : (X ++ pl)[i]? = some x := by
  rw [List.getElem?_append_left (List.getElem?_eq_some_iff.mp h).1]; exact h
theorem p_inr {X pl : va_W} {i : Nat} {x : Nat × va_E} (h : pl[i]? = some x) : (X ++ pl)[X.length + i]? = some x := by
  rw [List.getElem?_append_right (Nat.le_add_right _ _), Nat.add_sub_cancel_left]; exact h
theorem p_free {A : Nat → Prop} {X pl : va_W} {H0 H : Heap} {locs : List Loc} (hD : va_D A (X ++ pl)) (hS : va_S A H0 H locs) (hA : ∀ q, H0.size ≤ q → A q) : ∀ q, va_A pl H.size q → A q := by
  intro q hq
  rcases hq with ⟨k, x, h⟩ | h
  · exact hD.2 _ (q, x) (p_inr h)
  · exact hA q (Nat.le_trans hS.1 h)
theorem p_join {A : Nat → Prop} {D : va_G} {cl : List vw_C} {X pl pl1 : va_W} {H H1 : Heap} (hP : va_P D cl (X ++ pl) H) (hD : va_D A (X ++ pl)) (hk : ∀ q : Nat, q < H.size → ¬ va_A pl H.size q → H1[q]? = H[q]?) (hF : ∀ q, va_A pl H.size q → A q) (hP1 : va_P D cl pl1 H1) (hD1 : va_D (va_A pl H.size) pl1) : va_P D cl (X ++ pl1) H1 ∧ va_D A (X ++ pl1) := by
  have apart : ∀ (i : Nat) (x : Nat × va_E), X[i]? = some x → x.1 < H.size ∧ ¬ va_A pl H.size x.1 := by
    intro i x hx
    have hl := (hP i x (p_inl hx)).lt
    refine ⟨hl, fun h => ?_⟩
    rcases h with ⟨k, y, h⟩ | h
    · have q := hD.1 i (X.length + k) x (x.1, y) (p_inl hx) (p_inr h) rfl
      have := (List.getElem?_eq_some_iff.mp hx).1
      omega
    · omega
  have hDX : va_D A X := ⟨fun i j x y hx hy q => hD.1 i j x y (p_inl hx) (p_inl hy) q, fun k x hx => hD.2 k x (p_inl hx)⟩
  refine ⟨va_P.app (fun k x hx => ?_) hP1, va_D.app hDX (hD1.weaken (fun _ x _ h => hF x.1 h)) (fun i j x y hx hy q => ?_)⟩
  · exact (hP k x (p_inl hx)).kept (hk x.1 (apart k x hx).1 (apart k x hx).2)
  · exact (apart i x hx).2 (by rw [q]; exact hD1.2 j y hy)
section XQ
variable {p : Program} {l : Launch} {e : Env} {R : Room} {s : State} {m : MethodId} {args : Array Value} {below : List Frame} {meth : Method} {c : Code} {H H0 : Heap} {locs : List Loc} {cells slots mc ms pc : Nat} {Q : State → Prop} {D : va_G} {A : Nat → Prop} {X pl : va_W} {ls : Array Slot} {st0 rest : List Value} {a : Array Value}
theorem p_callv {S : Type} {post : S → Prop} {w : S → va_W} (hr : va_Run p l e R s m args below meth c H locs cells slots mc ms (F0 m pc ls st0) rest (va_Qv post (xB D (va_A pl H.size) w) (va_A pl H.size) a) (va_A pl H.size)) (hP : va_P D vwCl (X ++ pl) H) (hD : va_D A (X ++ pl)) (hS : va_S A H0 H locs) (hA : ∀ q, H0.size ≤ q → A q)
    (kk : ∀ (u : S) (H1 : Heap) (locs1 : List Loc), post u → va_P D vwCl (X ++ w u) H1 → va_D A (X ++ w u) → va_S A H0 H1 locs1 → W p l e R s m args below meth c H1 locs1 (cells + mc) (slots + ms) Q (F0 m (pc + 3) ls rest)) : W p l e R s m args below meth c H locs cells slots Q (F0 m pc ls st0) := by
  have hFc := p_free hD hS hA
  refine va_callv hr hS (fun q _ h => hFc q h) hFc (fun u t H1 locs1 ht hvm hw hB hz hk hS1 => ?_)
  obtain ⟨hP1, hD1⟩ := hB
  rw [ht] at hP1
  obtain ⟨hP2, hD2⟩ := p_join hP hD hk hFc hP1 hD1
  exact kk u H1 locs1 hw hP2 hD2 hS1
theorem p_calli {S : Type} {post : Int32 → S → Prop} {w : S → va_W} (hr : va_Run p l e R s m args below meth c H locs cells slots mc ms (F0 m pc ls st0) rest (va_Qi post (xB D (va_A pl H.size) w) (va_A pl H.size) a) (va_A pl H.size)) (hP : va_P D vwCl (X ++ pl) H) (hD : va_D A (X ++ pl)) (hS : va_S A H0 H locs) (hA : ∀ q, H0.size ≤ q → A q)
    (kk : ∀ (r : Int32) (u : S) (H1 : Heap) (locs1 : List Loc), post r u → va_P D vwCl (X ++ w u) H1 → va_D A (X ++ w u) → va_S A H0 H1 locs1 → W p l e R s m args below meth c H1 locs1 (cells + mc) (slots + ms) Q (F0 m (pc + 3) ls (.int r :: rest))) : W p l e R s m args below meth c H locs cells slots Q (F0 m pc ls st0) := by
  have hFc := p_free hD hS hA
  refine va_calli hr hS (fun q _ h => hFc q h) hFc (fun r u t H1 locs1 ht hvm hw hB hz hk hS1 => ?_)
  obtain ⟨hP1, hD1⟩ := hB
  rw [ht] at hP1
  obtain ⟨hP2, hD2⟩ := p_join hP hD hk hFc hP1 hD1
  exact kk r u H1 locs1 hw hP2 hD2 hS1
theorem p_calll {S : Type} {post : Int64 → S → Prop} {w : S → va_W} (hr : va_Run p l e R s m args below meth c H locs cells slots mc ms (F0 m pc ls st0) rest (va_Ql post (xB D (va_A pl H.size) w) (va_A pl H.size) a) (va_A pl H.size)) (hP : va_P D vwCl (X ++ pl) H) (hD : va_D A (X ++ pl)) (hS : va_S A H0 H locs) (hA : ∀ q, H0.size ≤ q → A q)
    (kk : ∀ (r : Int64) (u : S) (H1 : Heap) (locs1 : List Loc), post r u → va_P D vwCl (X ++ w u) H1 → va_D A (X ++ w u) → va_S A H0 H1 locs1 → W p l e R s m args below meth c H1 locs1 (cells + mc) (slots + ms) Q (F0 m (pc + 3) ls (.long r :: rest))) : W p l e R s m args below meth c H locs cells slots Q (F0 m pc ls st0) := by
  have hFc := p_free hD hS hA
  refine va_calll hr hS (fun q _ h => hFc q h) hFc (fun r u t H1 locs1 ht hvm hw hB hz hk hS1 => ?_)
  obtain ⟨hP1, hD1⟩ := hB
  rw [ht] at hP1
  obtain ⟨hP2, hD2⟩ := p_join hP hD hk hFc hP1 hD1
  exact kk r u H1 locs1 hw hP2 hD2 hS1
theorem p_callq {S : Type} {post : Option Nat → S → Prop} {w : S → va_W} (hr : va_Run p l e R s m args below meth c H locs cells slots mc ms (F0 m pc ls st0) rest (va_Qq post (xB D (va_A pl H.size) w) (va_A pl H.size) a) (va_A pl H.size)) (hP : va_P D vwCl (X ++ pl) H) (hD : va_D A (X ++ pl)) (hS : va_S A H0 H locs) (hA : ∀ q, H0.size ≤ q → A q)
    (kk : ∀ (r : Option Nat) (u : S) (H1 : Heap) (locs1 : List Loc), post r u → va_P D vwCl (X ++ w u) H1 → va_D A (X ++ w u) → va_S A H0 H1 locs1 → W p l e R s m args below meth c H1 locs1 (cells + mc) (slots + ms) Q (F0 m (pc + 3) ls (va_rf r :: rest))) : W p l e R s m args below meth c H locs cells slots Q (F0 m pc ls st0) := by
  have hFc := p_free hD hS hA
  refine va_callq hr hS (fun q _ h => hFc q h) hFc (fun r u t H1 locs1 ht hvm hw hB hz hk hS1 => ?_)
  obtain ⟨hP1, hD1⟩ := hB
  rw [ht] at hP1
  obtain ⟨hP2, hD2⟩ := p_join hP hD hk hFc hP1 hD1
  exact kk r u H1 locs1 hw hP2 hD2 hS1
end XQ
