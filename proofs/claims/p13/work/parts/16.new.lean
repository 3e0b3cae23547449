abbrev pMi (l : Launch) (D : va_G) (cy : Nat → ClassId) (y : MethodName) (c : ByteArray) (n : Nat) (r : Option FieldType) (rm : Room) (av : List Value) (L : List Nat) (S : pS) (post : Int32 → List Nat × pS → Prop) : Prop := ∀ sz : Nat, Met l y (xw y c n r) rm (va_Pc av (xPre D cy sz (va_pl L (pF cy S)))) (va_Qi post (xB D (va_A (va_pl L (pF cy S)) sz) (fun u : List Nat × pS => va_pl u.1 (pF cy u.2))) (va_A (va_pl L (pF cy S)) sz)) rm.cells rm.slots (va_A (va_pl L (pF cy S)) sz)
abbrev pMl (l : Launch) (D : va_G) (cy : Nat → ClassId) (y : MethodName) (c : ByteArray) (n : Nat) (rm : Room) (av : List Value) (L : List Nat) (S : pS) (post : Int64 → List Nat × pS → Prop) : Prop := ∀ sz : Nat, Met l y (xw y c n (some .long)) rm (va_Pc av (xPre D cy sz (va_pl L (pF cy S)))) (va_Ql post (xB D (va_A (va_pl L (pF cy S)) sz) (fun u : List Nat × pS => va_pl u.1 (pF cy u.2))) (va_A (va_pl L (pF cy S)) sz)) rm.cells rm.slots (va_A (va_pl L (pF cy S)) sz)
abbrev pMq (l : Launch) (D : va_G) (cy : Nat → ClassId) (y : MethodName) (c : ByteArray) (n : Nat) (r : Option FieldType) (rm : Room) (av : List Value) (L : List Nat) (S : pS) (post : Option Nat → List Nat × pS → Prop) : Prop := ∀ sz : Nat, Met l y (xw y c n r) rm (va_Pc av (xPre D cy sz (va_pl L (pF cy S)))) (va_Qq post (xB D (va_A (va_pl L (pF cy S)) sz) (fun u : List Nat × pS => va_pl u.1 (pF cy u.2))) (va_A (va_pl L (pF cy S)) sz)) rm.cells rm.slots (va_A (va_pl L (pF cy S)) sz)
/-- a new object of kind k with fields fs at q -/
def pN (S : pS) (q k : Nat) (fs : List Value) : pS := (va_up S.1 q k, va_up S.2.1 q (fun j => fs.getD j .null), S.2.2)
theorem pN_map {fs : List Value} {n : Nat} (h : fs.length = n) : (List.range n).map (fun j => fs.getD j .null) = fs := by
  apply List.ext_getElem?
  intro i
  rw [List.getElem?_map]
  by_cases hi : i < n
  · rw [List.getElem?_range hi]; simp [h, hi]
  · rw [List.getElem?_eq_none (by simp; omega), List.getElem?_eq_none (by omega)]; rfl
theorem pF_new {cy : Nat → ClassId} {S : pS} {q k : Nat} {fs : List Value} (hk : k < 13) (hf : fs.length = nF k) (b : Nat) : va_up (pF cy S) q (.inr (k, fs)) b = pF cy (pN S q k fs) b := by
  by_cases hb : b = q
  · subst hb
    rw [va_up_self, pF_obj (S := pN S b k fs) (va_up_self _ _ _) hk]
    rw [show (pN S b k fs).2.1 b = (fun j => fs.getD j .null) from va_up_self _ _ _, pN_map hf]
  · rw [va_up_ne _ _ hb]
    unfold pF
    rw [show (pN S q k fs).1 b = S.1 b from va_up_ne _ _ hb, show (pN S q k fs).2.1 b = S.2.1 b from va_up_ne _ _ hb]
    rfl
