/-! the class's two references; sets of what is written, where counts are kept apart -/
section ZRF
theorem ty_C.refs {W : Nat → Nat → Prop} {J : pm_H → Prop} (H : ty_C W J) (t0 t1 : Nat) : ty_C W (fun h => J h ∧ hs_fR h 0 0 = t0 ∧ hs_fR h 0 1 = t1) := by
  have oth : ∀ (h : pm_H) (a : Nat) (c : pm_C), a ≠ 0 → (hs_fR h 0 0 = t0 ∧ hs_fR h 0 1 = t1) → (hs_fR (pm_hset h a c) 0 0 = t0 ∧ hs_fR (pm_hset h a c) 0 1 = t1) :=
    fun h a c e p => ⟨(ty_fR_ne (Ne.symm e)).trans p.1, (ty_fR_ne (Ne.symm e)).trans p.2⟩
  have key : ∀ (h : pm_H) (a ci k t : Nat) (fs : List (Nat × Nat)) (v : Value), hs_sh a = (10 + ci, 0, fs) → fs[k]? = some (t, 0) → t < 3 → (hs_fR h 0 0 = t0 ∧ hs_fR h 0 1 = t1) → (hs_fR (hs_sF h a ci k v) 0 0 = t0 ∧ hs_fR (hs_sF h a ci k v) 0 1 = t1) := by
    intro h a ci k t fs v e1 e2 e3 p
    by_cases e : a = 0
    · subst e
      have ef : (hs_sh 0).2.2 = fs := by rw [e1]
      rw [← ef] at e2
      have n0 : k ≠ 0 := fun q => by
        subst q
        have q : some ((4 : Nat), (0 : Nat)) = some (t, 0) := e2
        cases q
        omega
      have n1 : k ≠ 1 := fun q => by
        subst q
        have q : some ((4 : Nat), (0 : Nat)) = some (t, 0) := e2
        cases q
        omega
      exact ⟨(ty_fR_sF n0).trans p.1, (ty_fR_sF n1).trans p.2⟩
    · exact oth h a _ e p
  refine ⟨fun h j => H.1 h j.1, fun h a ci k u fs t j w a1 a2 a3 a4 a5 a6 => ⟨H.2.1 h a ci k u fs t j.1 w a1 a2 a3 a4 a5 a6, key h a ci k t fs _ a2 a3 (by omega) j.2⟩, fun h a ci k u fs j w a1 a2 a3 a4 a5 => ⟨H.2.2.1 h a ci k u fs j.1 w a1 a2 a3 a4 a5, key h a ci k 2 fs _ a2 a3 (by decide) j.2⟩, fun h a n i t x j w a1 a2 a3 a4 a5 a6 a7 => ⟨H.2.2.2.1 h a n i t x j.1 w a1 a2 a3 a4 a5 a6 a7, oth h a _ (fun e => ?_) j.2⟩, fun h a n i x j w a1 a2 a3 => ⟨H.2.2.2.2.1 h a n i x j.1 w a1 a2 a3, oth h a _ (fun e => ?_) j.2⟩, fun w h j => H.2.2.2.2.2.1 w h j.1, fun w h j => H.2.2.2.2.2.2.1 w h j.1, fun w => ⟨fun h j => (H.2.2.2.2.2.2.2.1 w).1 h j.1, fun h u v j a1 a2 a3 a4 => ⟨(H.2.2.2.2.2.2.2.1 w).2 h u v j.1 a1 a2 a3 a4, oth _ 62 _ (by decide) (oth h 62 _ (by decide) j.2)⟩⟩, fun h t j q p w a1 a2 a3 => ⟨H.2.2.2.2.2.2.2.2 h t j q p.1 w a1 a2 a3, oth h (t + 10) _ (by omega) p.2⟩⟩
  · subst e
    have q : (20 : Nat) = t := congrArg (fun q => q.1) a2
    omega
  · subst e
    have q : (20 : Nat) = 1 := congrArg (fun q => q.1) a2
    omega
theorem tw_fld {t k : Nat} (ht : ty_tr t) (hk : (k != 0 && k != 3 && k != 10) = true) : ty_Wc t k := by
  have h1 : k ≠ 0 ∧ k ≠ 3 ∧ k ≠ 10 := by
    refine ⟨fun e => ?_, fun e => ?_, fun e => ?_⟩ <;> (subst e; cases hk)
  rcases ht with rfl | rfl | rfl | rfl | rfl <;> (unfold ty_Wc; omega)
theorem tw_arr {t o k : Nat} (ht : ty_tr t) (ho : (decide (1 ≤ o) && decide (o ≤ 10)) = true) : ty_Wc (t + o) k := by
  have h1 : 1 ≤ o ∧ o ≤ 10 := by
    rw [Bool.and_eq_true, decide_eq_true_eq, decide_eq_true_eq] at ho
    exact ho
  rcases ht with rfl | rfl | rfl | rfl | rfl <;> (unfold ty_Wc; omega)
theorem tw_ob {t : Nat} (ht : ty_tr t) : 10 ≤ (hs_sh t).1 := by
  rcases ht with rfl | rfl | rfl | rfl | rfl <;> decide
/-- a train is written anew; its arrays alone -/
def ty_Wtr (t a _k : Nat) : Prop := t ≤ a ∧ a ≤ t + 10
def ty_Wta (t a _k : Nat) : Prop := t < a ∧ a ≤ t + 10
/-- the class with n for now, on paper -/
def ty_Wpn (n a k : Nat) : Prop := a < 97 ∧ ¬ (a = 62 ∧ k = 1) ∧ a ≠ 63 ∧ a ≠ 57 ∧ ¬ ((a = n ∨ a = 35 ∨ a = 46) ∧ (k = 0 ∨ k = 3 ∨ k = 10))
/-- one count of it -/
def ty_Wqn (n j a k : Nat) : Prop := a < 97 ∧ ¬ (a = 62 ∧ k = 1) ∧ a ≠ 63 ∧ a ≠ 57 ∧ ¬ ((a = 1 ∨ a = 12 ∨ a = 35 ∨ a = 46) ∧ (k = 0 ∨ k = 3 ∨ k = 10) ∧ ¬ (a = n ∧ k = j))
/-- image i; the other one is o -/
def ty_Win (o i a k : Nat) : Prop := a < 97 ∧ ¬ (a = 62 ∧ k = 1) ∧ a ≠ 63 ∧ (a = 57 → k = i) ∧ ¬ ((a = 1 ∨ a = 12 ∨ a = o) ∧ (k = 0 ∨ k = 3 ∨ k = 10))
/-- back to one -/
def ty_Wbn (a k : Nat) : Prop := a < 97 ∧ ¬ (a = 62 ∧ k = 1) ∧ a ≠ 63 ∧ a ≠ 57 ∧ ¬ ((a = 35 ∨ a = 46) ∧ (k = 0 ∨ k = 3 ∨ k = 10))
/-- a count of the model -/
def ty_Wxr (j a k : Nat) : Prop := a = 200 ∨ (97 ≤ a ∧ a < 129 ∧ (a = 97 → k ≠ 13 ∧ k ≠ 20 ∧ k ≠ 21 ∧ k ≠ 23) ∧ (a = 99 → (3 ≤ k ∨ k = j) ∧ k < 98 ∧ k ≠ 5 ∧ k ≠ 9) ∧ a ≠ 100 ∧ a ≠ 101 ∧ a ≠ 106 ∧ a ≠ 107 ∧ a ≠ 108 ∧ a ≠ 109 ∧ a ≠ 127)
/-- image i of the model -/
def ty_Wxi (i a k : Nat) : Prop := a = 200 ∨ (97 ≤ a ∧ a < 129 ∧ (a = 97 → k ≠ 13 ∧ k ≠ 20 ∧ k ≠ 21 ∧ k ≠ 23) ∧ (a = 99 → 3 ≤ k ∧ k < 98 ∧ k ≠ 5 ∧ k ≠ 9) ∧ a ≠ 100 ∧ (a = 101 → k = i) ∧ a ≠ 106 ∧ a ≠ 107 ∧ a ≠ 108 ∧ a ≠ 109 ∧ a ≠ 127)
/-- a yard, a girl comes to y others (numbers from lo to hi can be): the answer z, how many there are then -/
def cn_ad (lo hi x y z w : Int) : Prop := ((x < lo ∨ hi < x) ∧ z = -1 ∧ w = y) ∨ (lo ≤ x ∧ x ≤ hi ∧ 8 ≤ y ∧ z = -5 ∧ w = y) ∨ (lo ≤ x ∧ x ≤ hi ∧ y < 8 ∧ z = y ∧ w = y + 1)
/-- seen: yard x of y, dip u; s so far -/
def cn_se (x u y s z w : Int) : Prop := ((u < 0 ∨ 40 < u) ∧ z = -1 ∧ w = s) ∨ (0 ≤ u ∧ u ≤ 40 ∧ (x < 0 ∨ y ≤ x) ∧ z = -2 ∧ w = s) ∨ (0 ≤ u ∧ u ≤ 40 ∧ 0 ≤ x ∧ x < y ∧ 6 ≤ s ∧ z = -5 ∧ w = s) ∨ (0 ≤ u ∧ u ≤ 40 ∧ 0 ≤ x ∧ x < y ∧ s < 6 ∧ z = s + 1 ∧ w = s + 1)
theorem ty_im34 {X : pm_X} {h : pm_H} (I : ty_I h) : pm_arr X h (.ref 34) = some (4, 2, .inr (.inr (.inr (.inr (hs_aR h 34))))) := by
  have q := I.1.2 34 (by decide)
  have g := I.1.1
  unfold hs_aR
  cases hc : h.2.2 34 with
  | inr x => rw [hc] at q; exact absurd q.1 (by show ¬ 10 + x.1 = 4; omega)
  | inl x =>
    obtain ⟨t, n, A⟩ := x
    rw [hc] at q
    have q1 : t = 4 := q.1
    have q2 : n = 2 := q.2.1
    subst q1
    subst q2
    obtain ⟨f, hf2⟩ := q.2.2
    have hf2 : A = .inr (.inr (.inr (.inr f))) := hf2
    subst hf2
    unfold pm_arr
    dsimp only
    rw [decide_eq_true (show 34 < h.1 by omega), hc]
    rfl
/-- image k of i, by its kind -/
theorem ty_im0 {X : pm_X} {d o : Nat} {ini : Bool} {ret : Option FieldType} {code : List pm_I} {pc : Nat} {ls : pm_Ls} {h : pm_H} {Q : pm_H → Option Value → Prop} {r : List Value} {len a b : Nat} {v : Value} {j : Int32}
    (I : ty_I h) (hf : pm_find code pc = some (.aaload, len, a, b, v)) (h0 : j.toInt = 0) (k : hq_W X d o ini ret code (pc + 1, ls, .ref 35 :: r, h) Q) : hq_W X d o ini ret code (pc, ls, .int j :: .ref 34 :: r, h) Q := by
  have p : pm_arr X h (.ref 34) = some (4, 2, .inr (.inr (.inr (.inr (hs_aR h 34))))) := ty_im34 I
  refine hq_aald hf p rfl (hs_in (by omega) (by omega)) ?_
  rw [nm_nat, h0]
  show hq_W X d o ini ret code (pc + 1, ls, va_rf (hs_aR h 34 0) :: r, h) Q
  rw [I.2.2.2.2.2.1.1]
  exact k
theorem ty_im1 {X : pm_X} {d o : Nat} {ini : Bool} {ret : Option FieldType} {code : List pm_I} {pc : Nat} {ls : pm_Ls} {h : pm_H} {Q : pm_H → Option Value → Prop} {r : List Value} {len a b : Nat} {v : Value} {j : Int32}
    (I : ty_I h) (hf : pm_find code pc = some (.aaload, len, a, b, v)) (h0 : j.toInt = 1) (k : hq_W X d o ini ret code (pc + 1, ls, .ref 46 :: r, h) Q) : hq_W X d o ini ret code (pc, ls, .int j :: .ref 34 :: r, h) Q := by
  have p : pm_arr X h (.ref 34) = some (4, 2, .inr (.inr (.inr (.inr (hs_aR h 34))))) := ty_im34 I
  refine hq_aald hf p rfl (hs_in (by omega) (by omega)) ?_
  rw [nm_nat, h0]
  show hq_W X d o ini ret code (pc + 1, ls, va_rf (hs_aR h 34 1) :: r, h) Q
  rw [I.2.2.2.2.2.1.2]
  exact k
/-- back to an image: K whether it was kept; counts then, ahead, of the image -/
def cn_bk (K z w0 w3 w10 y0 y3 y10 m0 m3 m10 : Int) : Prop := (K = 0 ∧ z = -2 ∧ w0 = y0 ∧ w3 = y3 ∧ w10 = y10) ∨ (K ≠ 0 ∧ z = 0 ∧ w0 = m0 ∧ w3 = m3 ∧ w10 = m10)
theorem im_u1 {f : Nat → Int32} {i j : Nat} {z : Int32} (e : j = i) (hz : z.toInt = 1) : (upd f i (z &&& 1) j).toInt = 1 := by
  have hz : z = 1 := nm_eqi.mpr (hz.trans (by decide))
  subst hz
  unfold upd
  rw [if_pos e]
  decide
theorem im_u0 {f : Nat → Int32} {i j : Nat} {x : Int32} (e : j ≠ i) : (upd f i x j).toInt = (f j).toInt := by
  unfold upd
  rw [if_neg e]
theorem va_in {src dst : Nat → Int32} {s d k j : Nat} (h1 : d ≤ j) (h2 : j < d + k) : va_cpy src dst s d k j = src (s + (j - d)) := by
  unfold va_cpy
  rw [if_pos ⟨h1, h2⟩]
theorem va_out {src dst : Nat → Int32} {s d k j : Nat} (h1 : ¬ (d ≤ j ∧ j < d + k)) : va_cpy src dst s d k j = dst j := by
  unfold va_cpy
  rw [if_neg h1]
theorem rf_eq {h : pm_H} (I : ty_I h) {b q : Nat} (hb : decide (b < (hs_sh 0).2.2.length) = true) : hs_fR (hs_sF h 0 10 b (.ref q)) 0 b = q := by
  unfold hs_fR
  rw [hs_fV_sF I.1 (fs := (hs_sh 0).2.2) rfl (by decide) (of_decide_eq_true hb)]
theorem ty_bLe {X : pm_X} {d o : Nat} {ini : Bool} {ret : Option FieldType} {code : List pm_I} {pc : Nat} {ls : pm_Ls} {h : pm_H} {Q : pm_H → Option Value → Prop} {r : List Value} {len a b x n : Nat} {v : Value} {j : Int32}
    (I : ty_I h) (hf : pm_find code pc = some (.baload, len, a, b, v)) (hs : hs_sh x = (2, n, [])) (hx : x < 129) (h0 : 0 ≤ j.toInt) (h1 : j.toInt < n) (k : ∀ z : Int32, z.toInt = (hs_aI h x j.toInt.toNat).toInt → -2147483648 ≤ z.toInt → z.toInt ≤ 2147483647 → hq_W X d o ini ret code (pc + 1, ls, .int z :: r, h) Q) : hq_W X d o ini ret code (pc, ls, .int j :: .ref x :: r, h) Q := by
  exact hq_bald hf (hs_barr I.1 hs hx) (hs_in h0 h1) (k _ (by rw [nm_nat]) (nm_lo _) (nm_hi _))
end ZRF
