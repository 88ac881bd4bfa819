/-! LANES: how one is laid, what a row lays -/
section ZLA
/-- a lane between a and b -/
def ly (f : Nat → Int32) (a b : Int) (s : Int32) : Nat → Int32 := upd (upd f (6 * a + b).toNat s) (6 * b + a).toNat s
theorem ly_eq {f g : Nat → Int32} {a b : Int} {s : Int32} {o : Nat} (h : ∀ j, j < 36 → f j = g (o + j)) (a0 : 0 ≤ a) (a1 : a ≤ 5) (b0 : 0 ≤ b) (b1 : b ≤ 5) : ∀ j, j < 36 → ly f a b s j = upd (upd g (o + (6 * a + b).toNat) s) (o + (6 * b + a).toNat) s (o + j) := by
  intro j hj
  unfold ly upd
  by_cases e1 : j = (6 * b + a).toNat
  · rw [if_pos e1, if_pos (show o + j = o + (6 * b + a).toNat by omega)]
  · rw [if_neg e1, if_neg (show ¬ (o + j = o + (6 * b + a).toNat) by omega)]
    by_cases e2 : j = (6 * a + b).toNat
    · rw [if_pos e2, if_pos (show o + j = o + (6 * a + b).toNat by omega)]
    · rw [if_neg e2, if_neg (show ¬ (o + j = o + (6 * a + b).toNat) by omega)]
      exact h j hj
theorem ly_u {f : Nat → Int32} {a b : Int} {s : Int32} {i j : Nat} (e1 : i = (6 * a + b).toNat) (e2 : j = (6 * b + a).toNat) : upd (upd f i s) j s = ly f a b s := by
  subst e1
  subst e2
  rfl
/-- the stiles that a byte tells -/
def sb (c : Int32) : Int32 := bif decide (c.toInt = 255) then -1 else c
/-- the lanes behind the first k of a row -/
def ll (F : Nat → Int32) (T : Int) (f : Nat → Int32) : Nat → (Nat → Int32)
  | 0 => f
  | k + 1 => bif ltB F T (3 * (k : Int)) then ly (ll F T f k) (F (3 * (k : Int)).toNat).toInt (F (3 * (k : Int) + 1).toNat).toInt (sb (F (3 * (k : Int) + 2).toNat)) else ll F T f k
theorem ll_1 {F f : Nat → Int32} {T i : Int} {k : Nat} (e : i = 3 * (k : Int)) (h : lt F T i) : ll F T f (k + 1) = ly (ll F T f k) (F i.toNat).toInt (F (i + 1).toNat).toInt (sb (F (i + 2).toNat)) := by
  show (bif ltB F T (3 * (k : Int)) then _ else _) = _
  rw [← e, lt_B.mpr h]
  rfl
theorem ll_0 {F f : Nat → Int32} {T i : Int} {k : Nat} (e : i = 3 * (k : Int)) (h : ¬ lt F T i) : ll F T f (k + 1) = ll F T f k := by
  show (bif ltB F T (3 * (k : Int)) then _ else _) = _
  have q : ltB F T i = false := by
    cases hb : ltB F T i with
    | true => exact absurd (lt_B.mp hb) h
    | false => rfl
  rw [← e, q]
  rfl
theorem sb_1 {z c : Int32} (e : z.toInt = -1) (h : c.toInt = 255) : z = sb c := by
  unfold sb
  rw [decide_eq_true h]
  show z = -1
  exact nm_eqi.mpr (e.trans (by decide))
theorem sb_0 {z c : Int32} (e : z.toInt = c.toInt) (h : c.toInt ≠ 255) : z = sb c := by
  unfold sb
  rw [decide_eq_false h]
  show z = c
  exact nm_eqi.mpr e
/-- the model's row behind the first k -/
def lr (F : Nat → Int32) (T : Int) (R : Nat → Int32) : Nat → (Nat → Int32)
  | 0 => R
  | k + 1 => bif ltB F T (3 * (k : Int)) then upd (upd (lr F T R k) (50 + 6 * (F (3 * (k : Int)).toNat).toInt + (F (3 * (k : Int) + 1).toNat).toInt).toNat (sb (F (3 * (k : Int) + 2).toNat))) (50 + 6 * (F (3 * (k : Int) + 1).toNat).toInt + (F (3 * (k : Int)).toNat).toInt).toNat (sb (F (3 * (k : Int) + 2).toNat)) else lr F T R k
theorem lr_1 {F R : Nat → Int32} {T i : Int} {k : Nat} (e : i = 3 * (k : Int)) (h : lt F T i) : lr F T R (k + 1) = upd (upd (lr F T R k) (50 + 6 * (F i.toNat).toInt + (F (i + 1).toNat).toInt).toNat (sb (F (i + 2).toNat))) (50 + 6 * (F (i + 1).toNat).toInt + (F i.toNat).toInt).toNat (sb (F (i + 2).toNat)) := by
  show (bif ltB F T (3 * (k : Int)) then _ else _) = _
  rw [← e, lt_B.mpr h]
  rfl
theorem lr_0 {F R : Nat → Int32} {T i : Int} {k : Nat} (e : i = 3 * (k : Int)) (h : ¬ lt F T i) : lr F T R (k + 1) = lr F T R k := by
  show (bif ltB F T (3 * (k : Int)) then _ else _) = _
  have q : ltB F T i = false := by
    cases hb : ltB F T i with
    | true => exact absurd (lt_B.mp hb) h
    | false => rfl
  rw [← e, q]
  rfl
/-- class and model lay the same -/
theorem ll_lr {F G L R : Nat → Int32} {T : Int} (hF : ∀ j : Nat, (j : Int) < T → F j = G j) (h : ∀ j, j < 36 → L j = R (50 + j)) : ∀ k : Nat, ∀ j, j < 36 → ll F T L k j = lr G T R k (50 + j)
  | 0, j, hj => h j hj
  | k + 1, j, hj => by
    have e : ltB F T (3 * (k : Int)) = ltB G T (3 * (k : Int)) := by
      by_cases c : 3 * (k : Int) + 2 < T
      · unfold ltB
        rw [hF (3 * (k : Int)).toNat (by omega), hF (3 * (k : Int) + 1).toNat (by omega), hF (3 * (k : Int) + 2).toNat (by omega)]
      · unfold ltB
        rw [decide_eq_false c, Bool.false_and, Bool.false_and]
    cases hb : ltB G T (3 * (k : Int)) with
    | false =>
      have q1 : ¬ lt F T (3 * (k : Int)) := fun w => by
        have := lt_B.mpr w
        rw [e, hb] at this
        cases this
      have q2 : ¬ lt G T (3 * (k : Int)) := fun w => by
        have := lt_B.mpr w
        rw [hb] at this
        cases this
      rw [ll_0 rfl q1, lr_0 rfl q2]
      exact ll_lr hF h k j hj
    | true =>
      have q2 : lt G T (3 * (k : Int)) := lt_B.mp hb
      have q1 : lt F T (3 * (k : Int)) := lt_B.mp (e.trans hb)
      have r := q2
      unfold lt at r
      rw [ll_1 rfl q1, lr_1 rfl q2, hF (3 * (k : Int)).toNat (by omega), hF (3 * (k : Int) + 1).toNat (by omega), hF (3 * (k : Int) + 2).toNat (by omega)]
      have y := ly_eq (s := sb (G (3 * (k : Int) + 2).toNat)) (a := (G (3 * (k : Int)).toNat).toInt) (b := (G (3 * (k : Int) + 1).toNat).toInt) (ll_lr hF h k) (by omega) (by omega) (by omega) (by omega) j hj
      rw [y, show (50 + 6 * (G (3 * (k : Int)).toNat).toInt + (G (3 * (k : Int) + 1).toNat).toInt).toNat = 50 + (6 * (G (3 * (k : Int)).toNat).toInt + (G (3 * (k : Int) + 1).toNat).toInt).toNat by omega, show (50 + 6 * (G (3 * (k : Int) + 1).toNat).toInt + (G (3 * (k : Int)).toNat).toInt).toNat = 50 + (6 * (G (3 * (k : Int) + 1).toNat).toInt + (G (3 * (k : Int)).toNat).toInt).toNat by omega]
end ZLA
