/-- how many slots the cells from n0 on have -/
def xsum (n0 : Nat) (H : Heap) : Nat := ((H.toList.drop n0).map (·.slots.size)).sum
section XR
variable {p : Program} {l : Launch} {e : Env} {R : Room} {s : State} {m : MethodId} {args : Array Value} {below : List Frame} {meth : Method} {c : Code} {H : Heap} {locs : List Loc} {cells slots : Nat} {Q : State → Prop} {g : JFrame}
/-- what the walk knows of the heap's size: it may be used at any point -/
theorem x_know (kk : s.heap.size ≤ H.size → H.size ≤ s.heap.size + cells → xsum s.heap.size H ≤ slots → (∀ (a : Nat) (x : Cell), s.heap[a]? = some x → ∃ y : Cell, H[a]? = some y ∧ y.slots.size = x.slots.size) → W p l e R s m args below meth c H locs cells slots Q g) : W p l e R s m args below meth c H locs cells slots Q g := fun T hT X => by
  have h := X.same
  have e1 : (T.setVm s.vm).heap = H := hT
  refine kk ?_ ?_ ?_ ?_ T hT X
  · rw [← e1]; exact h.2.1
  · rw [← e1]; exact h.2.2.1
  · rw [← e1]; exact h.2.2.2.2.1
  · intro a c hc
    obtain ⟨c', h1, -, h3, -⟩ := h.2.2.2.2.2 a c hc
    rw [e1] at h1
    exact ⟨c', h1, h3⟩
/-- .. and the count of cells and slots comes down to what the heap has -/
theorem x_narrow {k n : Nat} (h1 : H.size ≤ s.heap.size + k) (h2 : xsum s.heap.size H ≤ n) (kk : W p l e R s m args below meth c H locs k n Q g) : W p l e R s m args below meth c H locs cells slots Q g := fun T hT X => by
  have h := X.same
  have e1 : (T.setVm s.vm).heap = H := hT
  refine kk T hT { X with same := ⟨h.1, h.2.1, ?_, h.2.2.2.1, ?_, h.2.2.2.2.2⟩ }
  · rw [e1]; exact h1
  · rw [e1]; exact h2
end XR
theorem xsum_trans {n0 : Nat} {H H1 : Heap} (h0 : n0 ≤ H.size) (hs : H.size ≤ H1.size) (hk : ∀ (a : Nat) (x : Cell), H[a]? = some x → ∃ y : Cell, H1[a]? = some y ∧ y.slots.size = x.slots.size) : xsum n0 H1 = xsum n0 H + xsum H.size H1 := by
  have e0 : (H1.toList.take H.size).map (·.slots.size) = H.toList.map (·.slots.size) := by
    apply List.ext_getElem?
    intro i
    rw [List.getElem?_map, List.getElem?_map, List.getElem?_take, Array.getElem?_toList, Array.getElem?_toList]
    by_cases hi : i < H.size
    · obtain ⟨c', h1, h2⟩ := hk i H[i] (Array.getElem?_eq_getElem hi)
      rw [if_pos hi, h1, Array.getElem?_eq_getElem hi]
      simp [h2]
    · rw [if_neg hi, Array.getElem?_eq_none (by omega)]
  have e1 : H1.toList.drop n0 = (H1.toList.take H.size).drop n0 ++ H1.toList.drop H.size := by
    conv => lhs; rw [← List.take_append_drop H.size H1.toList]
    rw [List.drop_append_of_le_length]
    rw [List.length_take, Array.length_toList]
    omega
  unfold xsum
  rw [e1, List.map_append, List.sum_append, List.map_drop, e0, ← List.map_drop]
