theorem n_rng (x : Int32) : -2147483648 ≤ x.toInt ∧ x.toInt ≤ 2147483647 := by
  have h1 := x.le_toInt
  have h2 := x.toInt_lt
  constructor <;> omega
theorem n_add {x y : Int32} (h1 : -2147483648 ≤ x.toInt + y.toInt) (h2 : x.toInt + y.toInt ≤ 2147483647) : (x + y).toInt = x.toInt + y.toInt := by
  rw [Int32.toInt_add]
  exact Int.bmod_eq_of_le (by omega) (by omega)
theorem n_sub {x y : Int32} (h1 : -2147483648 ≤ x.toInt - y.toInt) (h2 : x.toInt - y.toInt ≤ 2147483647) : (x - y).toInt = x.toInt - y.toInt := by
  rw [Int32.toInt_sub]
  exact Int.bmod_eq_of_le (by omega) (by omega)
theorem n_mul {x y : Int32} (h1 : -2147483648 ≤ x.toInt * y.toInt) (h2 : x.toInt * y.toInt ≤ 2147483647) : (x * y).toInt = x.toInt * y.toInt := by
  rw [Int32.toInt_mul]
  exact Int.bmod_eq_of_le (by omega) (by omega)
theorem n_ofInt {n : Int} (h1 : -2147483648 ≤ n) (h2 : n ≤ 2147483647) : (Int32.ofInt n).toInt = n := Int32.toInt_ofInt_of_le (by omega) (by omega)
theorem n_div {x y : Int32} (hy : 0 < y.toInt) : (x / y).toInt = x.toInt.tdiv y.toInt := Int32.toInt_div_of_ne_right _ _ (fun h => by rw [h] at hy; revert hy; decide)
theorem n_divp {x y : Int32} (hx : 0 ≤ x.toInt) (hy : 0 < y.toInt) : (x / y).toInt = x.toInt / y.toInt := by
  rw [n_div hy, Int.tdiv_eq_ediv_of_nonneg hx]
theorem n_tdiv {a b : Int} (hb : 0 < b) : (0 ≤ a → 0 ≤ a.tdiv b ∧ a.tdiv b ≤ a) ∧ (a ≤ 0 → a ≤ a.tdiv b ∧ a.tdiv b ≤ 0) := by
  constructor
  · intro ha
    rw [Int.tdiv_eq_ediv_of_nonneg ha]
    exact ⟨Int.ediv_nonneg ha (by omega), Int.ediv_le_self _ ha⟩
  · intro ha
    have e : a.tdiv b = -((-a).tdiv b) := by rw [Int.neg_tdiv]; omega
    rw [e, Int.tdiv_eq_ediv_of_nonneg (by omega)]
    have h1 := Int.ediv_nonneg (a := -a) (b := b) (by omega) (by omega)
    have h2 := Int.ediv_le_self (a := -a) b (by omega)
    omega
theorem n_rem {x y : Int32} (hy : 0 < y.toInt) : (x - x / y * y).toInt = x.toInt.tmod y.toInt := by
  have hr := n_rng x
  have h1 := n_div (x := x) hy
  have h2 := Int.tdiv_mul_add_tmod x.toInt y.toInt
  have h3 : -2147483648 ≤ x.toInt.tdiv y.toInt * y.toInt ∧ x.toInt.tdiv y.toInt * y.toInt ≤ 2147483647 := by
    by_cases hx : 0 ≤ x.toInt
    · have a1 := Int.tmod_nonneg y.toInt hx
      have a2 : 0 ≤ x.toInt.tdiv y.toInt * y.toInt := Int.mul_nonneg ((n_tdiv hy).1 hx).1 (by omega)
      omega
    · have b1 : x.toInt.tdiv y.toInt * y.toInt ≤ 0 := Int.mul_nonpos_of_nonpos_of_nonneg ((n_tdiv hy).2 (by omega)).2 (by omega)
      have e : x.toInt.tmod y.toInt = -((-x.toInt).tmod y.toInt) := by rw [Int.neg_tmod]; omega
      have b2 := Int.tmod_nonneg (a := -x.toInt) y.toInt (by omega)
      omega
  have h4 : (x / y * y).toInt = x.toInt.tdiv y.toInt * y.toInt := by
    rw [n_mul (by rw [h1]; exact h3.1) (by rw [h1]; exact h3.2), h1]
  have h5 : -2147483648 ≤ x.toInt - (x / y * y).toInt ∧ x.toInt - (x / y * y).toInt ≤ 2147483647 := by
    rw [h4]
    have a1 := Int.tmod_lt_of_pos x.toInt hy
    have a2 := Int.lt_tmod_of_pos x.toInt hy
    have := n_rng y
    omega
  rw [n_sub h5.1 h5.2, h4]
  omega
theorem n_and {x y : Int32} (hy : 0 ≤ y.toInt) : 0 ≤ (x &&& y).toInt ∧ (x &&& y).toInt ≤ y.toInt := by
  have h1 : (x &&& y).toBitVec.toNat ≤ y.toBitVec.toNat := by
    rw [Int32.toBitVec_and, BitVec.toNat_and]
    exact Nat.and_le_right
  have hy2 : y.toBitVec.toInt = y.toInt := rfl
  have hx2 : (x &&& y).toBitVec.toInt = (x &&& y).toInt := rfl
  have b1 := y.toBitVec.isLt
  have e1 := BitVec.toInt_eq_toNat_cond y.toBitVec
  have e2 := BitVec.toInt_eq_toNat_cond (x &&& y).toBitVec
  split at e1 <;> split at e2 <;> omega
theorem n_andc (x y : Int32) : x &&& y = y &&& x := Int32.and_comm x y
theorem n_shr {x y : Int32} (hx : 0 ≤ x.toInt) : 0 ≤ (x >>> y).toInt ∧ (x >>> y).toInt ≤ x.toInt := by
  have e : (x >>> y).toInt = (x.toBitVec.sshiftRight' (y.toBitVec.smod 32)).toInt := by
    show (x >>> y).toBitVec.toInt = _
    rw [Int32.toBitVec_shiftRight]
  rw [e, BitVec.toInt_sshiftRight']
  have hx : 0 ≤ x.toBitVec.toInt := hx
  show _ ∧ _ ≤ x.toBitVec.toInt
  rw [Int.shiftRight_eq_div_pow]
  exact ⟨Int.ediv_nonneg hx (by exact_mod_cast Nat.zero_le _), Int.ediv_le_self _ hx⟩
theorem n_clamp {x : Int32} (h : 0 ≤ x.toInt) : (x.toNatClampNeg : Int) = x.toInt := by
  show ((x.toInt.toNat : Nat) : Int) = _
  omega
theorem n_pin {i : Int32} {n : Nat} (h1 : 0 ≤ i.toInt) (h2 : i.toInt < n) : pin i n = true := by
  unfold pin
  rw [Bool.and_eq_true, Bool.not_eq_true', decide_eq_false_iff_not, decide_eq_true_eq, Int32.lt_iff_toInt_lt, Int32.toInt_zero]
  have := n_clamp h1
  omega
