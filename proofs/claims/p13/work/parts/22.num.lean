/-! NUMBERS: what the machine's ints are, as integers. -/
section NUM
theorem nm_lo (x : Int32) : -2147483648 ≤ x.toInt := by
  have h := x.le_toInt
  have e : (-2 ^ 31 : Int) = -2147483648 := by decide
  rw [e] at h
  exact h
theorem nm_hi (x : Int32) : x.toInt ≤ 2147483647 := by
  have h := x.toInt_lt
  have e : (2 ^ 31 : Int) = 2147483648 := by decide
  rw [e] at h
  omega
theorem nm_llo (x : Int64) : -9223372036854775808 ≤ x.toInt := by
  have h := x.le_toInt
  have e : (-2 ^ 63 : Int) = -9223372036854775808 := by decide
  rw [e] at h
  exact h
theorem nm_lhi (x : Int64) : x.toInt ≤ 9223372036854775807 := by
  have h := x.toInt_lt
  have e : (2 ^ 63 : Int) = 9223372036854775808 := by decide
  rw [e] at h
  omega
theorem nm_bm {n : Int} (h0 : -2147483648 ≤ n) (h1 : n ≤ 2147483647) : n.bmod (2 ^ 32) = n := by
  show n.bmod 4294967296 = n
  exact Int.bmod_eq_of_le (by omega) (by omega)
theorem nm_lbm {n : Int} (h0 : -9223372036854775808 ≤ n) (h1 : n ≤ 9223372036854775807) : n.bmod (2 ^ 64) = n := by
  show n.bmod 18446744073709551616 = n
  exact Int.bmod_eq_of_le (by omega) (by omega)
theorem nm_add {x y : Int32} (h0 : -2147483648 ≤ x.toInt + y.toInt) (h1 : x.toInt + y.toInt ≤ 2147483647) : (x + y).toInt = x.toInt + y.toInt := by
  rw [Int32.toInt_add]; exact nm_bm h0 h1
theorem nm_sub {x y : Int32} (h0 : -2147483648 ≤ x.toInt - y.toInt) (h1 : x.toInt - y.toInt ≤ 2147483647) : (x - y).toInt = x.toInt - y.toInt := by
  rw [Int32.toInt_sub]; exact nm_bm h0 h1
theorem nm_neg {x : Int32} (h0 : -2147483647 ≤ x.toInt) : (-x).toInt = -x.toInt := by
  have := nm_hi x
  rw [Int32.toInt_neg]; exact nm_bm (by omega) (by omega)
theorem nm_mul {x y : Int32} {n : Int} (e : x.toInt * y.toInt = n) (h0 : -2147483648 ≤ n) (h1 : n ≤ 2147483647) : (x * y).toInt = n := by
  rw [Int32.toInt_mul, e]; exact nm_bm h0 h1
/-- times a number -/
theorem nm_mulc {x y : Int32} {c : Int} (e : y.toInt = c) (h0 : -2147483648 ≤ c * x.toInt) (h1 : c * x.toInt ≤ 2147483647) : (x * y).toInt = c * x.toInt :=
  nm_mul (by rw [e, Int.mul_comm]) h0 h1
theorem nm_cmul {x y : Int32} {c : Int} (e : x.toInt = c) (h0 : -2147483648 ≤ c * y.toInt) (h1 : c * y.toInt ≤ 2147483647) : (x * y).toInt = c * y.toInt :=
  nm_mul (by rw [e]) h0 h1
theorem nm_nn {x : Int32} (h : 0 ≤ x.toInt) : x.toInt = (x.toBitVec.toNat : Int) ∧ x.toBitVec.toNat < 2147483648 := by
  have k : x.toInt = x.toBitVec.toInt := rfl
  rw [k, BitVec.toInt_eq_toNat_cond] at h ⊢
  have := x.toBitVec.isLt
  split at h
  · rename_i c
    rw [if_pos c]
    exact ⟨rfl, by omega⟩
  · omega
theorem nm_ofn {x : Int32} (h : x.toBitVec.toNat < 2147483648) : x.toInt = (x.toBitVec.toNat : Int) := by
  have k : x.toInt = x.toBitVec.toInt := rfl
  rw [k, BitVec.toInt_eq_toNat_cond, if_pos (by omega)]
theorem nm_and_r {x y : Int32} (h : 0 ≤ y.toInt) : 0 ≤ (x &&& y).toInt ∧ (x &&& y).toInt ≤ y.toInt := by
  obtain ⟨k1, k2⟩ := nm_nn h
  have e : (x &&& y).toBitVec.toNat = x.toBitVec.toNat &&& y.toBitVec.toNat := rfl
  have l : x.toBitVec.toNat &&& y.toBitVec.toNat ≤ y.toBitVec.toNat := Nat.and_le_right
  have := nm_ofn (x := x &&& y) (by omega)
  omega
theorem nm_and_l {x y : Int32} (h : 0 ≤ x.toInt) : 0 ≤ (x &&& y).toInt ∧ (x &&& y).toInt ≤ x.toInt := by
  obtain ⟨k1, k2⟩ := nm_nn h
  have e : (x &&& y).toBitVec.toNat = x.toBitVec.toNat &&& y.toBitVec.toNat := rfl
  have l : x.toBitVec.toNat &&& y.toBitVec.toNat ≤ x.toBitVec.toNat := Nat.and_le_left
  have := nm_ofn (x := x &&& y) (by omega)
  omega
theorem nm_or8 {x y : Int32} (h0 : 0 ≤ x.toInt) (h1 : x.toInt ≤ 255) (h2 : 0 ≤ y.toInt) (h3 : y.toInt ≤ 255) : 0 ≤ (x ||| y).toInt ∧ (x ||| y).toInt ≤ 255 := by
  obtain ⟨k1, k2⟩ := nm_nn h0
  obtain ⟨k3, k4⟩ := nm_nn h2
  have e : (x ||| y).toBitVec.toNat = x.toBitVec.toNat ||| y.toBitVec.toNat := rfl
  have l : x.toBitVec.toNat ||| y.toBitVec.toNat < 2 ^ 8 := Nat.or_lt_two_pow (by omega) (by omega)
  have := nm_ofn (x := x ||| y) (by omega)
  omega
theorem nm_eq {x : Int32} {n : Int} (h : x.toInt = n) : x = Int32.ofInt n := by
  rw [← h, Int32.ofInt_toInt]
theorem nm_shl1 {x y : Int32} (e : x.toInt = 1) (h0 : 0 ≤ y.toInt) (h1 : y.toInt ≤ 8) : 1 ≤ (x <<< (y &&& 31)).toInt ∧ (x <<< (y &&& 31)).toInt ≤ 256 := by
  have ex := nm_eq e
  subst ex
  have c : y.toInt = 0 ∨ y.toInt = 1 ∨ y.toInt = 2 ∨ y.toInt = 3 ∨ y.toInt = 4 ∨ y.toInt = 5 ∨ y.toInt = 6 ∨ y.toInt = 7 ∨ y.toInt = 8 := by omega
  rcases c with c | c | c | c | c | c | c | c | c <;> (have ey := nm_eq c; subst ey; decide)
theorem nm_div {x y : Int32} {c : Int} (e : y.toInt = c) (hc : 0 < c) (h : 0 ≤ x.toInt) : (x / y).toInt = x.toInt / c := by
  have h1 := nm_hi x
  rw [Int32.toInt_div, e, Int.tdiv_eq_ediv_of_nonneg h]
  have a := Int.ediv_nonneg h (Int.le_of_lt hc)
  have b := Int.ediv_le_self c h
  exact nm_bm (by omega) (by omega)
theorem nm_rem {x y : Int32} {c : Int} (e : y.toInt = c) (hc : 0 < c) (h : 0 ≤ x.toInt) : (x - x / y * y).toInt = x.toInt % c := by
  have h1 := nm_hi x
  have d := nm_div e hc h
  have a := Int.ediv_nonneg h (Int.le_of_lt hc)
  have b := Int.ediv_le_self c h
  have m := Int.emod_nonneg x.toInt (Int.ne_of_gt hc)
  have q := Int.mul_ediv_add_emod x.toInt c
  have p : 0 ≤ c * (x.toInt / c) := Int.mul_nonneg (Int.le_of_lt hc) a
  have k : (x / y * y).toInt = c * (x.toInt / c) := by
    refine nm_mul ?_ (by omega) (by omega)
    rw [d, e, Int.mul_comm]
  rw [nm_sub (by omega) (by omega), k]
  omega
theorem nm_cmp (x y : Int64) : (x.toInt < y.toInt ∧ (lg_cmp x y).toInt = -1) ∨ (x.toInt = y.toInt ∧ (lg_cmp x y).toInt = 0) ∨ (y.toInt < x.toInt ∧ (lg_cmp x y).toInt = 1) := by
  unfold lg_cmp
  by_cases c : x > y
  · rw [if_pos c]
    exact Or.inr (Or.inr ⟨Int64.lt_iff_toInt_lt.mp c, by decide⟩)
  · rw [if_neg c]
    have c' : ¬ y.toInt < x.toInt := fun k => c (Int64.lt_iff_toInt_lt.mpr k)
    by_cases e : x = y
    · rw [if_pos e]
      exact Or.inr (Or.inl ⟨by rw [e], by decide⟩)
    · rw [if_neg e]
      have e' : ¬ x.toInt = y.toInt := fun k => e (Int64.toInt_inj.mp k)
      exact Or.inl ⟨by omega, by decide⟩
theorem nm_i2l (x : Int32) : x.toInt64.toInt = x.toInt := Int32.toInt_toInt64 x
theorem nm_l2i {x : Int64} (h0 : -2147483648 ≤ x.toInt) (h1 : x.toInt ≤ 2147483647) : x.toInt32.toInt = x.toInt := by
  rw [Int64.toInt_toInt32]; exact nm_bm h0 h1
theorem nm_ladd {x y : Int64} (h0 : -9223372036854775808 ≤ x.toInt + y.toInt) (h1 : x.toInt + y.toInt ≤ 9223372036854775807) : (x + y).toInt = x.toInt + y.toInt := by
  rw [Int64.toInt_add]; exact nm_lbm h0 h1
theorem nm_lsub {x y : Int64} (h0 : -9223372036854775808 ≤ x.toInt - y.toInt) (h1 : x.toInt - y.toInt ≤ 9223372036854775807) : (x - y).toInt = x.toInt - y.toInt := by
  rw [Int64.toInt_sub]; exact nm_lbm h0 h1
theorem nm_lmul {x y : Int64} {n : Int} (e : x.toInt * y.toInt = n) (h0 : -9223372036854775808 ≤ n) (h1 : n ≤ 9223372036854775807) : (x * y).toInt = n := by
  rw [Int64.toInt_mul, e]; exact nm_lbm h0 h1
theorem nm_ldiv {x y : Int64} {c : Int} (e : y.toInt = c) (hc : 0 < c) (h : 0 ≤ x.toInt) : (x / y).toInt = x.toInt / c := by
  have h1 := nm_lhi x
  rw [Int64.toInt_div, e, Int.tdiv_eq_ediv_of_nonneg h]
  have a := Int.ediv_nonneg h (Int.le_of_lt hc)
  have b := Int.ediv_le_self c h
  exact nm_lbm (by omega) (by omega)
theorem nm_lrem {x y : Int64} {c : Int} (e : y.toInt = c) (hc : 0 < c) (h : 0 ≤ x.toInt) : (x - x / y * y).toInt = x.toInt % c := by
  have h1 := nm_lhi x
  have d := nm_ldiv e hc h
  have a := Int.ediv_nonneg h (Int.le_of_lt hc)
  have b := Int.ediv_le_self c h
  have m := Int.emod_nonneg x.toInt (Int.ne_of_gt hc)
  have q := Int.mul_ediv_add_emod x.toInt c
  have p : 0 ≤ c * (x.toInt / c) := Int.mul_nonneg (Int.le_of_lt hc) a
  have k : (x / y * y).toInt = c * (x.toInt / c) := by
    refine nm_lmul ?_ (by omega) (by omega)
    rw [d, e, Int.mul_comm]
  rw [nm_lsub (by omega) (by omega), k]
  omega
theorem nm_nz {y : Int32} (h : y.toInt ≠ 0) : ¬ y = 0 := by
  intro e
  rw [e] at h
  exact h (by decide)
theorem nm_lnz {y : Int64} (h : y.toInt ≠ 0) : ¬ y = 0 := by
  intro e
  rw [e] at h
  exact h (by decide)
theorem nm_01 {x : Int32} (h : x.toInt = 0 ∨ x.toInt = 1) : x = 0 ∨ x = 1 := by
  rcases h with h | h
  · exact Or.inl (nm_eq h)
  · exact Or.inr (nm_eq h)
theorem nm_nat (x : Int32) : x.toNatClampNeg = x.toInt.toNat := rfl
theorem nm_lt {x y : Int32} : (x < y) ↔ x.toInt < y.toInt := Int32.lt_iff_toInt_lt
theorem nm_le {x y : Int32} : (x ≤ y) ↔ x.toInt ≤ y.toInt := Int32.le_iff_toInt_le
theorem nm_eqi {x y : Int32} : (x = y) ↔ x.toInt = y.toInt := Int32.toInt_inj.symm
theorem nm_0 : (0 : Int32).toInt = 0 := by decide
end NUM
