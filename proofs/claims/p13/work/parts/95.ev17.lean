/-! what the evaluator's values and cells stand for, in the pure machine -/
def ev_dI (xs : Nat → Int32) (i : Nat) : Int32 := if i < 8 then xs i else if i < 40 then xs (i % 8) >>> (Int32.ofNat ((i - 8) / 8 * 8) &&& 31) else if i < 72 then (xs (i % 8) >>> (Int32.ofNat ((i - 40) / 8 * 8) &&& 31)) &&& 255 else xs (i - 72) - 2
def ev_dV (xs : Nat → Int32) (v : ev_V) : Value := if v.1 % 4 = 0 then .int (if v.1 = 0 then Int32.ofNat v.2 else ev_dI xs v.2) else if v.1 % 4 = 1 then .long (if v.1 = 1 then Int64.ofNat v.2 else (ev_dI xs v.2).toInt64) else if v.1 = 2 then .ref v.2 else if v.1 = 6 then .retAddr v.2 else .null
def ev_dL (xs : Nat → Int32) (v : ev_V) : Option Value := if v.1 % 4 = 3 then none else some (ev_dV xs v)
def ev_rd (ov : List (Nat × Nat)) (N j : Nat) : ev_V := match ov with
  | [] => (0, ev_ln N j)
  | q :: t => if q.1 = j then (4, q.2) else ev_rd t N j
def ev_int (xs : Nat → Int32) (v : ev_V) : Int32 := if v.1 = 0 then Int32.ofNat v.2 else ev_dI xs v.2
def ev_ref (z : Nat) : Option Nat := match z with
  | 0 => none
  | m + 1 => some m
def ev_RA (xs : Nat → Int32) (t n N : Nat) (ov : List (Nat × Nat)) (x : (Nat → Int32) ⊕ (Nat → Int64) ⊕ (Nat → UInt32) ⊕ (Nat → UInt64) ⊕ (Nat → Option Nat)) : Prop := match x with
  | .inl f => (t = 0 ∨ t = 2) ∧ ∀ j, j < n → f j = ev_int xs (ev_rd ov N j)
  | .inr (.inl f) => t = 1 ∧ ∀ j, j < n → f j = Int64.ofNat (ev_ln8 N j)
  | .inr (.inr (.inr (.inr f))) => (t = 3 ∨ t = 4) ∧ ∀ j, j < n → f j = ev_ref (ev_ln N j)
  | _ => False
def ev_RC (xs : Nat → Int32) (c : ev_C) (p : pm_C) : Prop := match c with
  | .inl (t, n, N, ov) => ∃ x, p = .inl (t, n, x) ∧ ev_RA xs t n N ov x
  | .inr (ci, fs) => p = .inr (ci, fs.map (ev_dV xs)) ∧ fs.length = pm_cn ci
def ev_shape (hs : List (List ev_C)) : Prop := hs.length = 10 ∧ ∀ r ∈ hs, r.length = 16
def ev_RH (xs : Nat → Int32) (h : ev_H) (p : pm_H) : Prop := p.1 = h.1 ∧ p.2.1 = h.2.1 ∧ ev_shape h.2.2 ∧ h.1 ≤ 160 ∧ ∀ a, a < h.1 → ev_RC xs (ev_get h.2.2 a) (p.2.2 a)
def ev_RS (xs : Nat → Int32) (nL : Nat) (s : ev_S) (p : pm_S) : Prop := p.1 = s.1 ∧ p.2.1 = s.2.1.map (ev_dL xs) ∧ p.2.2.1 = s.2.2.1.map (ev_dV xs) ∧ s.2.1.length = nL ∧ ev_RH xs s.2.2.2 p.2.2.2
def ev_RR (xs : Nat → Int32) (r : ev_R) (p : pm_R) : Prop := ev_RH xs r.1 p.1 ∧ p.2 = r.2.map (ev_dV xs)
/-- what is known of a script is so -/
def ev_sat (E : ev_E) (L : Nat) (xs : Nat → Int32) : Prop := (E.1 = 0 ∨ (E.1 = L + 1 ∧ L ≤ 6)) ∧ (E.1 = 7 → xs 0 &&& 63 = Int32.ofNat E.2.1) ∧ ∀ i q, E.2.2[i]? = some q → i < 6 ∧ ((q.1 : Int) - 2147483648 ≤ (xs i).toInt) ∧ ((xs i).toInt ≤ (q.2 : Int) - 2147483648)
theorem ev_bt {a b : Nat} (h : a = b) : Nat.beq a b = true := by rw [h]; exact Nat.beq_refl b
theorem ev_bf {a b : Nat} (h : a ≠ b) : Nat.beq a b = false := by
  rw [← Bool.not_eq_true]
  intro g
  exact h (Nat.eq_of_beq_eq_true g)
theorem ev_fK_eq {β : Type} (n : Nat) (K : Nat → β) : ev_fK n K = K n := by cases n <;> rfl
theorem ev_nth_eq {α : Type} (d : α) (l : List α) (n : Nat) : ev_nth d l n = l.getD n d := by
  induction l generalizing n with
  | nil => simp [ev_nth]
  | cons x t ih =>
    cases n with
    | zero => rfl
    | succ n =>
      show ev_nth d t n = _
      rw [ih]
      simp
theorem ev_setK_eq {α β : Type} (l : List α) (n : Nat) (v : α) (K : List α → β) : ev_setK l n v K = K (l.set n v) := by
  induction l generalizing n K with
  | nil => rfl
  | cons x t ih =>
    cases n with
    | zero => rfl
    | succ n =>
      show ev_setK t n v (fun t' => K (x :: t')) = _
      rw [ih]
      rfl
def ev_hset (hs : List (List ev_C)) (a : Nat) (c : ev_C) : List (List ev_C) := hs.set (a / 16) ((hs.getD (a / 16) []).set (a % 16) c)
theorem ev_hsK_eq {β : Type} (hs : List (List ev_C)) (a : Nat) (c : ev_C) (K : List (List ev_C) → β) : ev_hsK hs a c K = K (ev_hset hs a c) := by
  unfold ev_hsK
  rw [ev_setK_eq, ev_setK_eq, ev_nth_eq]
  rfl
theorem ev_get_eq (hs : List (List ev_C)) (a : Nat) : ev_get hs a = (hs.getD (a / 16) []).getD (a % 16) (.inr (0, [])) := by
  unfold ev_get
  rw [ev_nth_eq, ev_nth_eq]
  rfl
theorem ev_row {hs : List (List ev_C)} (h : ev_shape hs) {i : Nat} (hi : i < 10) : (hs.getD i []).length = 16 := by
  have hl : i < hs.length := by rw [h.1]; exact hi
  rw [List.getD_eq_getElem?_getD, List.getElem?_eq_getElem hl]
  exact h.2 _ (List.getElem_mem hl)
theorem ev_shape_set {hs : List (List ev_C)} (h : ev_shape hs) {a : Nat} {c : ev_C} (ha : a < 160) : ev_shape (ev_hset hs a c) := by
  refine ⟨by unfold ev_hset; rw [List.length_set]; exact h.1, fun r hr => ?_⟩
  unfold ev_hset at hr
  rcases List.mem_or_eq_of_mem_set hr with g | g
  · exact h.2 r g
  · rw [g, List.length_set]
    exact ev_row h (by omega)
theorem ev_get_set {hs : List (List ev_C)} (h : ev_shape hs) {a b : Nat} {c : ev_C} (ha : a < 160) : ev_get (ev_hset hs a c) b = if b = a then c else ev_get hs b := by
  rw [ev_get_eq, ev_get_eq]
  unfold ev_hset
  have h1 : a / 16 < hs.length := by rw [h.1]; omega
  have h2 : a % 16 < (hs.getD (a / 16) []).length := by rw [ev_row h (by omega)]; omega
  by_cases e1 : b / 16 = a / 16
  · rw [e1]
    rw [List.getD_eq_getElem?_getD (l := hs.set _ _), List.getElem?_set_self h1]
    show (((hs.getD (a / 16) []).set (a % 16) c).getD (b % 16) _) = _
    by_cases e2 : b % 16 = a % 16
    · rw [e2, if_pos (by omega), List.getD_eq_getElem?_getD, List.getElem?_set_self h2]
      rfl
    · rw [if_neg (by omega), List.getD_eq_getElem?_getD, List.getElem?_set_ne (Ne.symm e2), ← List.getD_eq_getElem?_getD]
  · rw [if_neg (by omega), List.getD_eq_getElem?_getD (l := hs.set _ _), List.getElem?_set_ne (Ne.symm e1), ← List.getD_eq_getElem?_getD]

def ev_gs_ (N j m X : Nat) : Nat := (N ^^^ (((N >>> (32 * j)) % 2 ^ (32 * m)) <<< (32 * j))) ^^^ ((X % 2 ^ (32 * m)) <<< (32 * j))
theorem ev_ln_bit (N j i : Nat) : (ev_ln N j).testBit i = (decide (i < 32) && N.testBit (32 * j + i)) := by
  show ((N >>> (32 * j)) % 2 ^ 32).testBit i = _
  rw [Nat.testBit_mod_two_pow, Nat.testBit_shiftRight]
theorem ev_gs_eq (N j m X k : Nat) : ev_ln (ev_gs_ N j m X) k = if j ≤ k ∧ k < j + m then ev_ln X (k - j) else ev_ln N k := by
  apply Nat.eq_of_testBit_eq
  intro i
  by_cases hi : i < 32
  · have e : (ev_ln (ev_gs_ N j m X) k).testBit i = (ev_gs_ N j m X).testBit (32 * k + i) := by rw [ev_ln_bit, decide_eq_true hi, Bool.true_and]
    rw [e]
    unfold ev_gs_
    rw [Nat.testBit_xor, Nat.testBit_xor, Nat.testBit_shiftLeft, Nat.testBit_shiftLeft, Nat.testBit_mod_two_pow, Nat.testBit_mod_two_pow, Nat.testBit_shiftRight]
    by_cases h1 : k < j
    · rw [if_neg (by omega), ev_ln_bit, decide_eq_true hi, Bool.true_and]
      have h2 : ¬ (32 * k + i ≥ 32 * j) := by omega
      rw [decide_eq_false h2]
      simp
    · by_cases h2 : k < j + m
      · rw [if_pos ⟨by omega, h2⟩, ev_ln_bit, decide_eq_true hi, Bool.true_and]
        have h3 : 32 * k + i ≥ 32 * j := by omega
        have h4 : 32 * k + i - 32 * j < 32 * m := by omega
        rw [decide_eq_true h3, decide_eq_true h4, show 32 * j + (32 * k + i - 32 * j) = 32 * k + i by omega, show 32 * (k - j) + i = 32 * k + i - 32 * j by omega]
        simp
      · rw [if_neg (by omega), ev_ln_bit, decide_eq_true hi, Bool.true_and]
        have h4 : ¬ (32 * k + i - 32 * j < 32 * m) := by omega
        rw [decide_eq_false h4]
        simp
  · rw [ev_ln_bit, decide_eq_false hi, Bool.false_and]
    split <;> rw [ev_ln_bit, decide_eq_false hi, Bool.false_and]
theorem ev_ln_0 (j : Nat) : ev_ln 0 j = 0 := by
  show ((0 >>> (32 * j)) % 4294967296) = 0
  rw [Nat.zero_shiftRight]
theorem ev_lset_eq (N j v k : Nat) : ev_ln (ev_lset N j v) k = if k = j then v % 4294967296 else ev_ln N k := by
  have e : ev_lset N j v = ev_gs_ N j 1 v := rfl
  rw [e, ev_gs_eq]
  by_cases hk : k = j
  · rw [if_pos ⟨by omega, by omega⟩, if_pos hk, hk, Nat.sub_self]
    rfl
  · rw [if_neg (by omega), if_neg hk]
def ev_gs8_ (N j m X : Nat) : Nat := (N ^^^ (((N >>> (64 * j)) % 2 ^ (64 * m)) <<< (64 * j))) ^^^ ((X % 2 ^ (64 * m)) <<< (64 * j))
theorem ev_ln8_bit (N j i : Nat) : (ev_ln8 N j).testBit i = (decide (i < 64) && N.testBit (64 * j + i)) := by
  show ((N >>> (64 * j)) % 2 ^ 64).testBit i = _
  rw [Nat.testBit_mod_two_pow, Nat.testBit_shiftRight]
theorem ev_gs8_eq (N j m X k : Nat) : ev_ln8 (ev_gs8_ N j m X) k = if j ≤ k ∧ k < j + m then ev_ln8 X (k - j) else ev_ln8 N k := by
  apply Nat.eq_of_testBit_eq
  intro i
  by_cases hi : i < 64
  · have e : (ev_ln8 (ev_gs8_ N j m X) k).testBit i = (ev_gs8_ N j m X).testBit (64 * k + i) := by rw [ev_ln8_bit, decide_eq_true hi, Bool.true_and]
    rw [e]
    unfold ev_gs8_
    rw [Nat.testBit_xor, Nat.testBit_xor, Nat.testBit_shiftLeft, Nat.testBit_shiftLeft, Nat.testBit_mod_two_pow, Nat.testBit_mod_two_pow, Nat.testBit_shiftRight]
    by_cases h1 : k < j
    · rw [if_neg (by omega), ev_ln8_bit, decide_eq_true hi, Bool.true_and]
      have h2 : ¬ (64 * k + i ≥ 64 * j) := by omega
      rw [decide_eq_false h2]
      simp
    · by_cases h2 : k < j + m
      · rw [if_pos ⟨by omega, h2⟩, ev_ln8_bit, decide_eq_true hi, Bool.true_and]
        have h3 : 64 * k + i ≥ 64 * j := by omega
        have h4 : 64 * k + i - 64 * j < 64 * m := by omega
        rw [decide_eq_true h3, decide_eq_true h4, show 64 * j + (64 * k + i - 64 * j) = 64 * k + i by omega, show 64 * (k - j) + i = 64 * k + i - 64 * j by omega]
        simp
      · rw [if_neg (by omega), ev_ln8_bit, decide_eq_true hi, Bool.true_and]
        have h4 : ¬ (64 * k + i - 64 * j < 64 * m) := by omega
        rw [decide_eq_false h4]
        simp
  · rw [ev_ln8_bit, decide_eq_false hi, Bool.false_and]
    split <;> rw [ev_ln8_bit, decide_eq_false hi, Bool.false_and]
theorem ev_ln8_0 (j : Nat) : ev_ln8 0 j = 0 := by
  show ((0 >>> (64 * j)) % 18446744073709551616) = 0
  rw [Nat.zero_shiftRight]
theorem ev_lset8_eq (N j v k : Nat) : ev_ln8 (ev_lset8 N j v) k = if k = j then v % 18446744073709551616 else ev_ln8 N k := by
  have e : ev_lset8 N j v = ev_gs8_ N j 1 v := rfl
  rw [e, ev_gs8_eq]
  by_cases hk : k = j
  · rw [if_pos ⟨by omega, by omega⟩, if_pos hk, hk, Nat.sub_self]
    rfl
  · rw [if_neg (by omega), if_neg hk]
theorem ev_cpy_eq (S N sp dp n k : Nat) : ev_ln (ev_cpy S N sp dp n) k = if dp ≤ k ∧ k < dp + n then ev_ln S (sp + (k - dp)) else ev_ln N k := by
  have e : ev_cpy S N sp dp n = ev_gs_ N dp n (S >>> (32 * sp)) := rfl
  rw [e, ev_gs_eq]
  by_cases hk : dp ≤ k ∧ k < dp + n
  · rw [if_pos hk, if_pos hk]
    show ((S >>> (32 * sp)) >>> (32 * (k - dp))) % 4294967296 = (S >>> (32 * (sp + (k - dp)))) % 4294967296
    rw [← Nat.shiftRight_add, Nat.mul_add]
  · rw [if_neg hk, if_neg hk]
theorem ev_rdK_eq {β : Type} (ov : List (Nat × Nat)) (N j : Nat) (K : ev_V → β) : ev_rdK ov N j K = K (ev_rd ov N j) := by
  induction ov with
  | nil =>
    show ev_fK (ev_ln N j) (fun z => K (0, z)) = _
    rw [ev_fK_eq]
    rfl
  | cons q t ih =>
    show cond (Nat.beq q.1 j) (K (4, q.2)) (ev_rdK t N j K) = K (if q.1 = j then (4, q.2) else ev_rd t N j)
    by_cases hq : q.1 = j
    · rw [if_pos hq, ev_bt hq]
      rfl
    · rw [if_neg hq, ev_bf hq, ← ih]
      rfl
def ev_ovd (ov : List (Nat × Nat)) (j : Nat) : List (Nat × Nat) := match ov with
  | [] => []
  | q :: t => if q.1 = j then ev_ovd t j else q :: ev_ovd t j
theorem ev_ovdK_eq {β : Type} (ov : List (Nat × Nat)) (j : Nat) (K : List (Nat × Nat) → β) : ev_ovdK ov j K = K (ev_ovd ov j) := by
  induction ov generalizing K with
  | nil => rfl
  | cons q t ih =>
    show cond (Nat.beq q.1 j) (ev_ovdK t j K) (ev_ovdK t j (fun t => K (q :: t))) = K (if q.1 = j then ev_ovd t j else q :: ev_ovd t j)
    by_cases hq : q.1 = j
    · rw [if_pos hq, ev_bt hq]
      show ev_ovdK t j K = _
      rw [ih]
    · rw [if_neg hq, ev_bf hq]
      show ev_ovdK t j (fun t => K (q :: t)) = _
      rw [ih]
theorem ev_rd_ovd (ov : List (Nat × Nat)) (N j k : Nat) (hk : k ≠ j) : ev_rd (ev_ovd ov j) N k = ev_rd ov N k := by
  induction ov with
  | nil => rfl
  | cons q t ih =>
    show ev_rd (if q.1 = j then ev_ovd t j else q :: ev_ovd t j) N k = if q.1 = k then (4, q.2) else ev_rd t N k
    by_cases hq : q.1 = j
    · rw [if_pos hq, if_neg (by omega), ih]
    · rw [if_neg hq]
      show (if q.1 = k then (4, q.2) else ev_rd (ev_ovd t j) N k) = _
      rw [ih]
theorem ev_rd_self (ov : List (Nat × Nat)) (N j : Nat) : ev_rd (ev_ovd ov j) N j = (0, ev_ln N j) := by
  induction ov with
  | nil => rfl
  | cons q t ih =>
    show ev_rd (if q.1 = j then ev_ovd t j else q :: ev_ovd t j) N j = _
    by_cases hq : q.1 = j
    · rw [if_pos hq, ih]
    · rw [if_neg hq]
      show (if q.1 = j then (4, q.2) else ev_rd (ev_ovd t j) N j) = _
      rw [if_neg hq, ih]
theorem ev_rd_N (ov : List (Nat × Nat)) (N N' k : Nat) (h : ev_ln N k = ev_ln N' k) : ev_rd ov N k = ev_rd ov N' k := by
  induction ov with
  | nil => show (0, ev_ln N k) = (0, ev_ln N' k); rw [h]
  | cons q t ih =>
    show (if q.1 = k then (4, q.2) else ev_rd t N k) = (if q.1 = k then (4, q.2) else ev_rd t N' k)
    rw [ih]
/-! numbers -/
theorem ev_ofN {a b : Nat} (h : a % 4294967296 = b % 4294967296) : Int32.ofNat a = Int32.ofNat b := by
  apply Int32.toInt_inj.mp
  rw [Int32.toInt_ofNat', Int32.toInt_ofNat']
  unfold Int.bmod
  have : ((a : Int) % (Int32.size : Int)) = ((b : Int) % (Int32.size : Int)) := by
    show (a : Int) % 4294967296 = (b : Int) % 4294967296
    omega
  rw [this]
theorem ev_ofN_mod (a : Nat) : Int32.ofNat (a % 4294967296) = Int32.ofNat a := ev_ofN (by omega)
theorem ev_toI (x : Nat) : (Int32.ofNat x).toInt = (ev_ofs x : Int) - 2147483648 := by
  rw [Int32.toInt_ofNat']
  show Int.bmod (x : Int) 4294967296 = (((x + 2147483648) % 4294967296 : Nat) : Int) - 2147483648
  unfold Int.bmod
  dsimp only
  split <;> omega
theorem ev_toL (x : Nat) : (Int64.ofNat x).toInt = (ev_ofs8 x : Int) - 9223372036854775808 := by
  rw [Int64.toInt_ofNat']
  show Int.bmod (x : Int) 18446744073709551616 = (((x + 9223372036854775808) % 18446744073709551616 : Nat) : Int) - 9223372036854775808
  unfold Int.bmod
  dsimp only
  split <;> omega
theorem ev_ci_eq (x : Int32) : Int32.ofNat (ev_ci x) = x := Int32.ofNat_bitVecToNat x.toBitVec
theorem ev_cl_eq (x : Int64) : Int64.ofNat (ev_cl x) = x := Int64.ofNat_bitVecToNat x.toBitVec
theorem ev_add_eq (x y : Nat) : Int32.ofNat (ev_add x y) = Int32.ofNat x + Int32.ofNat y := by
  rw [← Int32.ofNat_add]
  exact ev_ofN_mod (x + y)
theorem ev_mul_eq (x y : Nat) : Int32.ofNat (ev_mul x y) = Int32.ofNat x * Int32.ofNat y := by
  rw [← Int32.ofNat_mul]
  exact ev_ofN_mod (x * y)
theorem ev_sub_eq (x y : Nat) : Int32.ofNat (ev_sub x y) = Int32.ofNat x - Int32.ofNat y := by
  have e : Int32.ofNat (ev_sub x y) = Int32.ofNat (x + 4294967296 - y % 4294967296) := by
    show Int32.ofNat ((x + (4294967296 - y % 4294967296)) % 4294967296) = _
    rw [ev_ofN_mod]
    apply ev_ofN
    omega
  rw [e, Int32.ofNat_sub _ _ (by omega), ev_ofN_mod y, ev_ofN (a := x + 4294967296) (b := x) (by omega)]
theorem ev_land_eq (x y : Nat) : Int32.ofNat (Nat.land x y) = Int32.ofNat x &&& Int32.ofNat y := by
  show Int32.ofBitVec (BitVec.ofNat 32 (x &&& y)) = Int32.ofBitVec (BitVec.ofNat 32 x &&& BitVec.ofNat 32 y)
  congr 1
  apply BitVec.eq_of_toNat_eq
  simp [BitVec.toNat_and, BitVec.toNat_ofNat, Nat.and_mod_two_pow (n := 32)]
theorem ev_lor_eq (x y : Nat) : Int32.ofNat (Nat.lor x y) = Int32.ofNat x ||| Int32.ofNat y := by
  show Int32.ofBitVec (BitVec.ofNat 32 (x ||| y)) = Int32.ofBitVec (BitVec.ofNat 32 x ||| BitVec.ofNat 32 y)
  congr 1
  apply BitVec.eq_of_toNat_eq
  simp [BitVec.toNat_or, BitVec.toNat_ofNat, Nat.or_mod_two_pow (n := 32)]
theorem ev_ushr_eq (x y : Nat) : Int32.ofNat (ev_ushr x y) = ((Int32.ofNat x).toUInt32 >>> ((Int32.ofNat y).toUInt32 &&& Int32.toUInt32 31)).toInt32 := by
  show Int32.ofNat ((x % 4294967296) >>> (y % 32)) = ((UInt32.ofNat x) >>> (UInt32.ofNat y &&& 31)).toInt32
  have e : ((UInt32.ofNat x) >>> (UInt32.ofNat y &&& 31)) = UInt32.ofNat ((x % 4294967296) >>> (y % 32)) := by
    apply UInt32.toNat_inj.mp
    rw [UInt32.toNat_shiftRight, UInt32.toNat_and, UInt32.toNat_ofNat', UInt32.toNat_ofNat', UInt32.toNat_ofNat']
    have h1 : (y % 2 ^ 32 &&& UInt32.toNat 31) % 32 = y % 32 := by
      show (y % 4294967296 &&& 2 ^ 5 - 1) % 32 = y % 32
      rw [Nat.and_two_pow_sub_one_eq_mod]
      omega
    rw [h1]
    have h2 : (x % 4294967296) >>> (y % 32) < 2 ^ 32 := by
      rw [Nat.shiftRight_eq_div_pow]
      exact Nat.lt_of_le_of_lt (Nat.div_le_self _ _) (Nat.mod_lt _ (by decide))
    rw [Nat.mod_eq_of_lt h2]
  rw [e]
  exact UInt32.toInt32_ofNat'.symm
theorem ev_and1 (v : Nat) : Int32.ofNat (Nat.mod v 2) = Int32.ofNat v &&& 1 := by
  have : Nat.mod v 2 = Nat.land v 1 := (Nat.and_one_is_mod v).symm
  rw [this, ev_land_eq]
  rfl
theorem ev_clamp {j k : Nat} (h1 : k ≤ 16777216) (h2 : j < k) : (Int32.ofNat j).toNatClampNeg = j := Int32.toNatClampNeg_ofNat_of_lt (by omega)
theorem ev_in {j k : Nat} (h1 : k ≤ 16777216) (h2 : j < k) : pm_in (Int32.ofNat j) k = true := by
  unfold pm_in
  rw [ev_clamp h1 h2, decide_eq_true h2, Bool.and_true]
  have : ¬ (Int32.ofNat j < 0) := by
    rw [Int32.lt_iff_toInt_lt, Int32.toInt_ofNat_of_lt (by omega)]
    show ¬ ((j : Int) < 0)
    omega
  rw [decide_eq_false this]
  rfl
theorem ev_nneg {j : Nat} (h : j ≤ 16777216) : ¬ (Int32.ofNat j < 0) := by
  rw [Int32.lt_iff_toInt_lt, Int32.toInt_ofNat_of_lt (by omega)]
  show ¬ ((j : Int) < 0)
  omega
