/-! LAWS' TEXTS of the class: cells from 129 on -/
section TXT
theorem ty_ty_k {h h' : pm_H} {x : Nat} {c l : Int32} (e1 : h'.1 = h.1) (e : ∀ a, 129 ≤ a → h'.2.2 a = h.2.2 a) (k : ty_ty h x c l) : ty_ty h' x c l := by
  obtain ⟨q1, q2, q3, q4, q5, q6, q7, q8, q9, q10⟩ := k
  refine ⟨q1, by rw [e1]; exact q2, q3, q4, q5, q6, ?_, fun i i1 i2 => ?_, ?_, ?_⟩
  · rw [e x q1]; exact q7
  · rw [e (x + i) (by omega)]; exact q8 i i1 i2
  · rw [e (x + 6) (by omega)]; exact q9
  · rw [e (x + 7) (by omega)]; exact q10
theorem ty_ty_s {h h1 : pm_H} {x a : Nat} {cc : pm_C} {c l : Int32} (e : h1 = pm_hset h a cc) (ha : a < 129) (k : ty_ty h x c l) : ty_ty h1 x c l := by
  subst e
  exact ty_ty_k (h := h) rfl (fun b hb => hs_oth (by omega)) k
theorem ty_xo {h : pm_H} {x : Nat} {c l : Int32} (q : ty_ty h x c l) : ∃ p, pm_obj h (.ref x) = some (x, 7, [.int c, .ref (x + 1), .ref (x + 2), .ref (x + 3), .ref (x + 4), .ref (x + 5), .int l, .ref (x + 6), .ref (x + 7), .int p]) := by
  obtain ⟨q1, q2, q3, q4, q5, q6, ⟨p, q7⟩, q8⟩ := q
  refine ⟨p, ?_⟩
  unfold pm_obj
  dsimp only
  rw [decide_eq_true (show x < h.1 by omega), q7]
  rfl
theorem ty_xA {X : pm_X} {h : pm_H} {y n : Nat} {f : Nat → Int32} (hy : y < h.1) (e : h.2.2 y = .inl (0, n, .inl f)) : pm_arr X h (.ref y) = some (0, n, .inl f) := by
  unfold pm_arr
  dsimp only
  rw [decide_eq_true hy, e]
  rfl
theorem ty_xc {X : pm_X} {d o : Nat} {ini : Bool} {ret : Option FieldType} {code : List pm_I} {pc : Nat} {ls : pm_Ls} {h : pm_H} {Q : pm_H → Option Value → Prop} {r : List Value} {ix len x : Nat} {v : Value} {c l : Int32}
    (q : ty_ty h x c l) (hf : pm_find code pc = some (.getfield ix, len, 7, 0, v)) (k : ∀ z : Int32, z.toInt = c.toInt → hq_W X d o ini ret code (pc + 3, ls, .int z :: r, h) Q) : hq_W X d o ini ret code (pc, ls, .ref x :: r, h) Q := by
  obtain ⟨p, o⟩ := ty_xo q
  exact hq_getf hf o (by decide) rfl (k c rfl)
theorem ty_xl {X : pm_X} {d o : Nat} {ini : Bool} {ret : Option FieldType} {code : List pm_I} {pc : Nat} {ls : pm_Ls} {h : pm_H} {Q : pm_H → Option Value → Prop} {r : List Value} {ix len x : Nat} {v : Value} {c l : Int32}
    (q : ty_ty h x c l) (hf : pm_find code pc = some (.getfield ix, len, 7, 6, v)) (k : ∀ z : Int32, z.toInt = l.toInt → hq_W X d o ini ret code (pc + 3, ls, .int z :: r, h) Q) : hq_W X d o ini ret code (pc, ls, .ref x :: r, h) Q := by
  obtain ⟨p, o⟩ := ty_xo q
  exact hq_getf hf o (by decide) rfl (k l rfl)
theorem ty_xr {X : pm_X} {d o : Nat} {ini : Bool} {ret : Option FieldType} {code : List pm_I} {pc : Nat} {ls : pm_Ls} {h : pm_H} {Q : pm_H → Option Value → Prop} {r : List Value} {ix len x b y : Nat} {v : Value} {c l : Int32}
    (q : ty_ty h x c l) (hf : pm_find code pc = some (.getfield ix, len, 7, b, v)) (hb : b < pm_cn 7) (hy : ∀ c l p : Value, [c, .ref (x + 1), .ref (x + 2), .ref (x + 3), .ref (x + 4), .ref (x + 5), l, .ref (x + 6), .ref (x + 7), p][b]? = some (.ref y)) (k : hq_W X d o ini ret code (pc + 3, ls, .ref y :: r, h) Q) : hq_W X d o ini ret code (pc, ls, .ref x :: r, h) Q := by
  obtain ⟨p, o⟩ := ty_xo q
  exact hq_getf hf o hb (hy _ _ _) k
theorem ty_xa {X : pm_X} {d o : Nat} {ini : Bool} {ret : Option FieldType} {code : List pm_I} {pc : Nat} {ls : pm_Ls} {h : pm_H} {Q : pm_H → Option Value → Prop} {r : List Value} {len a b x i : Nat} {v : Value} {c l j : Int32}
    (q : ty_ty h x c l) (hf : pm_find code pc = some (.iaload, len, a, b, v)) (i1 : 1 ≤ i) (i2 : i < 6) (h0 : 0 ≤ j.toInt) (h1 : j.toInt < c.toInt) (k : ∀ z : Int32, -2147483648 ≤ z.toInt → z.toInt ≤ 2147483647 → hq_W X d o ini ret code (pc + 1, ls, .int z :: r, h) Q) : hq_W X d o ini ret code (pc, ls, .int j :: .ref (x + i) :: r, h) Q := by
  obtain ⟨f, e⟩ := q.2.2.2.2.2.2.2.1 i i1 i2
  have q2 := q.2.1
  exact hq_iald hf (ty_xA (by omega) e) (hs_in h0 (by omega)) (k _ (nm_lo _) (nm_hi _))
theorem ty_xa6 {X : pm_X} {d o : Nat} {ini : Bool} {ret : Option FieldType} {code : List pm_I} {pc : Nat} {ls : pm_Ls} {h : pm_H} {Q : pm_H → Option Value → Prop} {r : List Value} {len a b x : Nat} {v : Value} {c l j : Int32}
    (q : ty_ty h x c l) (hf : pm_find code pc = some (.iaload, len, a, b, v)) (h0 : 0 ≤ j.toInt) (h1 : j.toInt < l.toInt) (k : ∀ z : Int32, -2147483648 ≤ z.toInt → z.toInt ≤ 2147483647 → hq_W X d o ini ret code (pc + 1, ls, .int z :: r, h) Q) : hq_W X d o ini ret code (pc, ls, .int j :: .ref (x + 6) :: r, h) Q := by
  obtain ⟨f, e⟩ := q.2.2.2.2.2.2.2.2.1
  have q2 := q.2.1
  exact hq_iald hf (ty_xA (by omega) e) (hs_in h0 (by omega)) (k _ (nm_lo _) (nm_hi _))
theorem ty_xa7 {X : pm_X} {d o : Nat} {ini : Bool} {ret : Option FieldType} {code : List pm_I} {pc : Nat} {ls : pm_Ls} {h : pm_H} {Q : pm_H → Option Value → Prop} {r : List Value} {len a b x : Nat} {v : Value} {c l j : Int32}
    (q : ty_ty h x c l) (hf : pm_find code pc = some (.iaload, len, a, b, v)) (h0 : 0 ≤ j.toInt) (h1 : j.toInt < l.toInt) (k : ∀ z : Int32, 0 ≤ z.toInt → z.toInt ≤ 1000 → hq_W X d o ini ret code (pc + 1, ls, .int z :: r, h) Q) : hq_W X d o ini ret code (pc, ls, .int j :: .ref (x + 7) :: r, h) Q := by
  obtain ⟨f, e, g⟩ := q.2.2.2.2.2.2.2.2.2
  have q2 := q.2.1
  have g1 := g j.toInt.toNat (by omega)
  exact hq_iald hf (ty_xA (by omega) e) (hs_in h0 (by omega)) (k _ g1.1 g1.2)
theorem ty_rA {X : pm_X} {d o : Nat} {ini : Bool} {ret : Option FieldType} {code : List pm_I} {pc : Nat} {ls : pm_Ls} {h : pm_H} {Q : pm_H → Option Value → Prop} {len a b : Nat} {v : Value} {w : Option Nat} {cn : String}
    (hr : ret = some (.object cn)) (hf : pm_find code pc = some (.areturn, len, a, b, v)) (k : Q h (some (va_rf w))) : hq_W X d o ini ret code (pc, ls, [va_rf w], h) Q := by
  refine hq_W.ret hf ?_ rfl k
  subst hr
  cases w with
  | none => rfl
  | some x => rfl
/-- what was there before: the class' constants and its strings -/
def ty_SX (X : pm_X) : Prop := X 201 = some (0, 3, fun j => [999, 10, 9].getD j 0) ∧ ∀ k, k < 23 → X (100 + k) = some (5, (pm_strB.getD k []).length, fun j => (pm_strB.getD k []).getD j 0)
def ty_sn (k : Nat) : Int := ((pm_strB.getD k []).length : Int)
theorem ty_sn0 {k : Nat} (hk : k < 23) : 0 ≤ ty_sn k ∧ ty_sn k ≤ 100 := by
  have q : ∀ k, k < 23 → (pm_strB.getD k []).length ≤ 100 := by decide
  have := q k hk
  unfold ty_sn
  omega
theorem ty_snI {k : Nat} (hk : k < 23) : (Int32.ofNat (pm_strB.getD k []).length).toInt = ty_sn k := by
  have q := (ty_sn0 hk).2
  unfold ty_sn at q ⊢
  exact Int32.toInt_ofNat_of_lt (by omega)
theorem ty_x201 {X : pm_X} {h : pm_H} (hX : ty_SX X) : pm_arr X h (.retAddr 201) = some (0, 3, .inl (fun j => [999, 10, 9].getD j 0)) := by
  unfold pm_arr
  dsimp only
  rw [hX.1]
theorem ty_sB {X : pm_X} {h : pm_H} {k : Nat} (hX : ty_SX X) (hk : k < 23) : pm_arr X h (.retAddr (100 + k)) = some (5, (pm_strB.getD k []).length, .inl (fun j => (pm_strB.getD k []).getD j 0)) := by
  unfold pm_arr
  dsimp only
  rw [hX.2 k hk]
theorem nm_shr0 {x y : Int32} (e : y.toInt = 0) : (x >>> (y &&& 31)).toInt = x.toInt := by
  have ey := nm_eq e
  subst ey
  have q : (Int32.ofInt 0 &&& 31 : Int32) = 0 := by decide
  rw [q, Int32.shiftRight_zero]
theorem nm_u16 {x : Int32} (h0 : 0 ≤ x.toInt) (h1 : x.toInt ≤ 65535) : (x.toUInt32 % 65536).toInt32 = x := by
  obtain ⟨k1, k2⟩ := nm_nn h0
  have e : x.toUInt32 % 65536 = x.toUInt32 := by
    apply UInt32.toNat_inj.mp
    have q : x.toUInt32.toNat = x.toBitVec.toNat := rfl
    rw [UInt32.toNat_mod, q]
    exact Nat.mod_eq_of_lt (by show _ < 65536; omega)
  rw [e]
  rfl
theorem nm_i2c {x : Int32} (h0 : 0 ≤ x.toInt) (h1 : x.toInt ≤ 65535) : (x.toUInt32 % 65536).toInt32.toInt = x.toInt := by rw [nm_u16 h0 h1]
theorem nm_chr {x : Int32} (h0 : 0 ≤ x.toInt) (h1 : x.toInt ≤ 65535) : narrow .char (.int x) = .int x := by
  obtain ⟨k1, k2⟩ := nm_nn h0
  show Value.int x.toUInt32.toUInt16.toUInt32.toInt32 = .int x
  have e : x.toUInt32.toUInt16.toUInt32 = x.toUInt32 := by
    apply UInt32.toNat_inj.mp
    have q : x.toUInt32.toNat = x.toBitVec.toNat := rfl
    rw [UInt16.toNat_toUInt32, UInt32.toNat_toUInt16, q]
    exact Nat.mod_eq_of_lt (by show _ < 65536; omega)
  rw [e]
  rfl
theorem ty_sv0 {X : pm_X} {d o : Nat} {ini : Bool} {ret : Option FieldType} {code : List pm_I} {pc : Nat} {ls : pm_Ls} {h : pm_H} {Q : pm_H → Option Value → Prop} {r : List Value} {k ix len : Nat} {v : Value}
    (hk : k < 23) (hf : pm_find code pc = some (.getfield ix, len, 100, 0, v)) (k2 : hq_W X d o ini ret code (pc + 3, ls, .retAddr (100 + k) :: r, h) Q) : hq_W X d o ini ret code (pc, ls, .retAddr k :: r, h) Q := by
  refine hq_p hf ?_ k2
  show (bif (100 : Nat) == 100 && decide (k < 23) then (bif (0 : Nat) == 0 then pm_go (pc + 3) ls (.retAddr (100 + k) :: r) h else pm_go (pc + 3) ls (.int 0 :: r) h) else none) = _
  rw [decide_eq_true hk]
  rfl
theorem ty_sc0 {X : pm_X} {d o : Nat} {ini : Bool} {ret : Option FieldType} {code : List pm_I} {pc : Nat} {ls : pm_Ls} {h : pm_H} {Q : pm_H → Option Value → Prop} {r : List Value} {k b ix len : Nat} {v : Value}
    (hk : k < 23) (hf : pm_find code pc = some (.getfield ix, len, 100, b, v)) (hb : b ≠ 0) (k2 : hq_W X d o ini ret code (pc + 3, ls, .int 0 :: r, h) Q) : hq_W X d o ini ret code (pc, ls, .retAddr k :: r, h) Q := by
  refine hq_p hf ?_ k2
  show (bif (100 : Nat) == 100 && decide (k < 23) then (bif b == 0 then pm_go (pc + 3) ls (.retAddr (100 + k) :: r) h else pm_go (pc + 3) ls (.int 0 :: r) h) else none) = _
  rw [decide_eq_true hk, show (b == 0) = false from beq_false_of_ne hb]
  rfl
theorem ty_sbl {X : pm_X} {d o : Nat} {ini : Bool} {ret : Option FieldType} {code : List pm_I} {pc : Nat} {ls : pm_Ls} {h : pm_H} {Q : pm_H → Option Value → Prop} {r : List Value} {k len a b : Nat} {v : Value} {j : Int32}
    (hX : ty_SX X) (hk : k < 23) (hf : pm_find code pc = some (.baload, len, a, b, v)) (h0 : 0 ≤ j.toInt) (h1 : j.toInt < ty_sn k) (k2 : hq_W X d o ini ret code (pc + 1, ls, .int ((pm_strB.getD k []).getD j.toNatClampNeg 0) :: r, h) Q) : hq_W X d o ini ret code (pc, ls, .int j :: .retAddr (100 + k) :: r, h) Q := by
  refine hq_p hf ?_ k2
  show (match pm_arr X h (.retAddr (100 + k)) with
        | some (t, n, .inl f) => bif (t == 2 || (t == 5 && pm_isS (.retAddr (100 + k)))) && pm_in j n then pm_go (pc + 1) ls (.int (f j.toNatClampNeg) :: r) h else none
        | _ => none) = _
  rw [ty_sB hX hk]
  dsimp only
  rw [hs_in h0 h1]
  rfl
theorem ty_rC {X : pm_X} {d o : Nat} {ini : Bool} {ret : Option FieldType} {code : List pm_I} {pc : Nat} {ls : pm_Ls} {h : pm_H} {Q : pm_H → Option Value → Prop} {len a b : Nat} {v : Value} {x : Int32}
    (hr : ret = some .char) (hf : pm_find code pc = some (.ireturn, len, a, b, v)) (h0 : 0 ≤ x.toInt) (h1 : x.toInt ≤ 65535) (k : Q h (some (.int x))) : hq_W X d o ini ret code (pc, ls, [.int x], h) Q := by
  refine hq_W.ret hf ?_ rfl k
  subst hr
  show (bif decide (narrow .char (.int x) = .int x) then (some (.inr (h, some (Value.int x))) : Option (pm_S ⊕ pm_R)) else none) = _
  rw [decide_eq_true (nm_chr h0 h1)]
  rfl
theorem ty_rY {X : pm_X} {d o : Nat} {ini : Bool} {ret : Option FieldType} {code : List pm_I} {pc : Nat} {ls : pm_Ls} {h : pm_H} {Q : pm_H → Option Value → Prop} {len a b : Nat} {v : Value} {x : Int32}
    (hr : ret = some .byte) (hf : pm_find code pc = some (.ireturn, len, a, b, v)) (h0 : x.toInt = 0) (k : Q h (some (.int x))) : hq_W X d o ini ret code (pc, ls, [.int x], h) Q := by
  refine hq_W.ret hf ?_ rfl k
  subst hr
  have e := nm_eq h0
  subst e
  rfl
end TXT
