/-! ints as numbers -/
theorem ki_lt {a b : Int32} : a < b ↔ a.toInt < b.toInt := Int32.lt_iff_toInt_lt
theorem ki_le {a b : Int32} : a ≤ b ↔ a.toInt ≤ b.toInt := Int32.le_iff_toInt_le
theorem ki_eq {a b : Int32} : a = b ↔ a.toInt = b.toInt := ⟨fun h => by rw [h], fun h => Int32.toInt_inj.1 h⟩
theorem ki_lo (a : Int32) : -2147483648 ≤ a.toInt := Int32.le_toInt a
theorem ki_hi (a : Int32) : a.toInt < 2147483648 := Int32.toInt_lt a
theorem ki_nat (a : Int32) : a.toNatClampNeg = a.toInt.toNat := rfl
theorem ki_add {a b : Int32} (h1 : -2147483648 ≤ a.toInt + b.toInt) (h2 : a.toInt + b.toInt < 2147483648) : (a + b).toInt = a.toInt + b.toInt := by
  rw [Int32.toInt_add]
  exact Int.bmod_eq_of_le (by omega) (by omega)
theorem ki_sub {a b : Int32} (h1 : -2147483648 ≤ a.toInt - b.toInt) (h2 : a.toInt - b.toInt < 2147483648) : (a - b).toInt = a.toInt - b.toInt := by
  rw [Int32.toInt_sub]
  exact Int.bmod_eq_of_le (by omega) (by omega)
theorem ki_mul {a b : Int32} (h1 : -2147483648 ≤ a.toInt * b.toInt) (h2 : a.toInt * b.toInt < 2147483648) : (a * b).toInt = a.toInt * b.toInt := by
  rw [Int32.toInt_mul]
  exact Int.bmod_eq_of_le (by omega) (by omega)
theorem ki_in {i : Int32} {n : Nat} : vp_in i n ↔ 0 ≤ i.toInt ∧ i.toInt < (n : Int) := by
  have h0 : (0 : Int32).toInt = 0 := by decide
  unfold vp_in
  rw [ki_lt, h0, ki_nat]
  omega
/-! the reference's state: what is read after what was written -/
theorem km_i_si (μ : km_S) (k j : Nat) (v : Int32) : km_i (km_si μ k v) j = if j = k then v else km_i μ j := by
  simp only [km_i, km_si, upd]
theorem km_a_si (μ : km_S) (k j i : Nat) (v : Int32) : km_a (km_si μ k v) j i = km_a μ j i := rfl
theorem km_l_si (μ : km_S) (k j : Nat) (v : Int32) : km_l (km_si μ k v) j = km_l μ j := rfl
theorem km_p_si (μ : km_S) (k j : Nat) (v : Int32) : km_p (km_si μ k v) j = km_p μ j := rfl
theorem km_i_sa (μ : km_S) (k i j : Nat) (v : Int32) : km_i (km_sa μ k i v) j = km_i μ j := rfl
theorem km_a_sa (μ : km_S) (k i j q : Nat) (v : Int32) : km_a (km_sa μ k i v) j q = if j = k then (if q = i then v else km_a μ k q) else km_a μ j q := by
  simp only [km_a, km_sa, upd]
  split <;> rfl
theorem km_l_sa (μ : km_S) (k i j : Nat) (v : Int32) : km_l (km_sa μ k i v) j = km_l μ j := rfl
theorem km_p_sa (μ : km_S) (k i j : Nat) (v : Int32) : km_p (km_sa μ k i v) j = km_p μ j := rfl
theorem km_i_sl (μ : km_S) (k j : Nat) (v : Int64) : km_i (km_sl μ k v) j = km_i μ j := rfl
theorem km_a_sl (μ : km_S) (k j i : Nat) (v : Int64) : km_a (km_sl μ k v) j i = km_a μ j i := rfl
theorem km_i_sp (μ : km_S) (k j : Nat) (v : Int64) : km_i (km_sp μ k v) j = km_i μ j := rfl
theorem km_a_sp (μ : km_S) (k j i : Nat) (v : Int64) : km_a (km_sp μ k v) j i = km_a μ j i := rfl
theorem km_l_sp (μ : km_S) (k j : Nat) (v : Int64) : km_l (km_sp μ k v) j = km_l μ j := rfl
