/-! THE TAPES: what is fed, what a row tells -/
section ZTA
def sh4 (k : Nat) : Int32 := match k with
  | 0 => 24
  | 1 => 16
  | 2 => 8
  | _ => 0
/-- the k-th byte of x -/
def bt (x : Int32) (k : Nat) : Int32 := (x >>> (sh4 k &&& 31)) &&& 255
/-- k bytes of x come behind s others -/
def ap (f : Nat → Int32) (s : Nat) (x : Int32) : Nat → (Nat → Int32)
  | 0 => f
  | k + 1 => upd (ap f s x k) (s + k) (bt x k)
theorem ap_s {f : Nat → Int32} {s i k : Nat} {x v : Int32} (e1 : i = s + k) (e2 : v = bt x k) : upd (ap f s x k) i v = ap f s x (k + 1) := by
  subst e1
  subst e2
  rfl
theorem bt_v {x zs zv z c : Int32} {k : Nat} (e1 : zs.toInt = (x >>> (z &&& 31)).toInt) (e2 : zv.toInt = (zs &&& c).toInt) (ec : c.toInt = 255) (ez : z.toInt = 24 - 8 * (k : Int)) (hk : k < 4) : zv = bt x k := by
  have h1 := nm_eqi.mpr e1
  have h2 := nm_eqi.mpr e2
  have h3 : c = 255 := nm_eqi.mpr (ec.trans (by decide))
  have h4 : z = sh4 k := by
    rcases (show k = 0 ∨ k = 1 ∨ k = 2 ∨ k = 3 by omega) with rfl | rfl | rfl | rfl
    · exact nm_eqi.mpr ((show z.toInt = 24 by omega).trans (by decide))
    · exact nm_eqi.mpr ((show z.toInt = 16 by omega).trans (by decide))
    · exact nm_eqi.mpr ((show z.toInt = 8 by omega).trans (by decide))
    · exact nm_eqi.mpr ((show z.toInt = 0 by omega).trans (by decide))
  rw [h2, h1, h3, h4]
  rfl
theorem ap_eq {f g : Nat → Int32} {s : Nat} {x : Int32} (h : ∀ j, j < s → f j = g j) : ∀ k j, j < s + k → ap f s x k j = ap g s x k j
  | 0, j, hj => h j hj
  | k + 1, j, hj => by
    show upd (ap f s x k) (s + k) (bt x k) j = upd (ap g s x k) (s + k) (bt x k) j
    unfold upd
    by_cases e : j = s + k
    · rw [if_pos e, if_pos e]
    · rw [if_neg e, if_neg e]
      exact ap_eq h k j (by omega)
/-- five numbers -/
def fd (f : Nat → Int32) (T : Int) (a b c d e : Int32) : Nat → Int32 := ap (ap (ap (ap (ap f T.toNat a 4) (T + 4).toNat b 4) (T + 8).toNat c 4) (T + 12).toNat d 4) (T + 16).toNat e 4
theorem fd_eq {f g : Nat → Int32} {T : Int} {a b c d e a' b' c' d' e' : Int32} (hT : 0 ≤ T) (h : ∀ j : Nat, (j : Int) < T → f j = g j) (ea : a' = a) (eb : b' = b) (ec : c' = c) (ed : d' = d) (ee : e' = e) : ∀ j : Nat, (j : Int) < T + 20 → fd f T a b c d e j = fd g T a' b' c' d' e' j := by
  subst ea
  subst eb
  subst ec
  subst ed
  subst ee
  intro j hj
  exact ap_eq (fun j hj => ap_eq (fun j hj => ap_eq (fun j hj => ap_eq (fun j hj => ap_eq (fun j hj => h j (by omega)) 4 j (by omega)) 4 j (by omega)) 4 j (by omega)) 4 j (by omega)) 4 j (by omega)
/-- a lane is told at i -/
def lt (F : Nat → Int32) (T i : Int) : Prop := i + 2 < T ∧ 0 ≤ (F i.toNat).toInt ∧ (F i.toNat).toInt ≤ 5 ∧ 0 ≤ (F (i + 1).toNat).toInt ∧ (F (i + 1).toNat).toInt ≤ 5 ∧ (F i.toNat).toInt ≠ (F (i + 1).toNat).toInt ∧ ((F (i + 2).toNat).toInt = 255 ∨ (-1 ≤ (F (i + 2).toNat).toInt ∧ (F (i + 2).toNat).toInt ≤ 9))
def ltB (F : Nat → Int32) (T i : Int) : Bool := decide (i + 2 < T) && (decide (0 ≤ (F i.toNat).toInt) && (decide ((F i.toNat).toInt ≤ 5) && (decide (0 ≤ (F (i + 1).toNat).toInt) && (decide ((F (i + 1).toNat).toInt ≤ 5) && (!decide ((F i.toNat).toInt = (F (i + 1).toNat).toInt) && (decide ((F (i + 2).toNat).toInt = 255) || (decide (-1 ≤ (F (i + 2).toNat).toInt) && decide ((F (i + 2).toNat).toInt ≤ 9))))))))
theorem lt_B {F : Nat → Int32} {T i : Int} : ltB F T i = true ↔ lt F T i := by
  unfold ltB lt
  simp only [Bool.and_eq_true, Bool.or_eq_true, decide_eq_true_eq, Bool.not_eq_true', decide_eq_false_iff_not, ne_eq]
/-- how many of the first k -/
def tc (F : Nat → Int32) (T : Int) : Nat → Int
  | 0 => 0
  | k + 1 => tc F T k + (bif ltB F T (3 * (k : Int)) then 1 else 0)
theorem tc_1 {F : Nat → Int32} {T i : Int} {k : Nat} (e : i = 3 * (k : Int)) (h : lt F T i) : tc F T (k + 1) = tc F T k + 1 := by
  show tc F T k + (bif ltB F T (3 * (k : Int)) then 1 else 0) = _
  rw [← e, lt_B.mpr h]
  rfl
theorem tc_0 {F : Nat → Int32} {T i : Int} {k : Nat} (e : i = 3 * (k : Int)) (h : ¬ lt F T i) : tc F T (k + 1) = tc F T k := by
  show tc F T k + (bif ltB F T (3 * (k : Int)) then 1 else 0) = _
  have q : ltB F T i = false := by
    cases hb : ltB F T i with
    | true => exact absurd (lt_B.mp hb) h
    | false => rfl
  rw [← e, q]
  exact Int.add_zero _
theorem tc_b (F : Nat → Int32) (T : Int) : ∀ k : Nat, 0 ≤ tc F T k ∧ tc F T k ≤ k
  | 0 => ⟨Int.le_refl _, Int.le_refl _⟩
  | k + 1 => by
    have q := tc_b F T k
    show 0 ≤ tc F T k + (bif ltB F T (3 * (k : Int)) then 1 else 0) ∧ tc F T k + (bif ltB F T (3 * (k : Int)) then 1 else 0) ≤ ((k + 1 : Nat) : Int)
    cases ltB F T (3 * (k : Int)) with
    | true => show 0 ≤ tc F T k + 1 ∧ tc F T k + 1 ≤ ((k + 1 : Nat) : Int); omega
    | false => show 0 ≤ tc F T k + 0 ∧ tc F T k + 0 ≤ ((k + 1 : Nat) : Int); omega
theorem tc_eq {F G : Nat → Int32} {T : Int} (h : ∀ j : Nat, (j : Int) < T → F j = G j) : ∀ k : Nat, tc F T k = tc G T k
  | 0 => rfl
  | k + 1 => by
    show tc F T k + (bif ltB F T (3 * (k : Int)) then 1 else 0) = tc G T k + (bif ltB G T (3 * (k : Int)) then 1 else 0)
    have e : ltB F T (3 * (k : Int)) = ltB G T (3 * (k : Int)) := by
      by_cases c : 3 * (k : Int) + 2 < T
      · unfold ltB
        rw [h (3 * (k : Int)).toNat (by omega), h (3 * (k : Int) + 1).toNat (by omega), h (3 * (k : Int) + 2).toNat (by omega)]
      · unfold ltB
        rw [decide_eq_false c, Bool.false_and, Bool.false_and]
    rw [tc_eq h k, e]
end ZTA
