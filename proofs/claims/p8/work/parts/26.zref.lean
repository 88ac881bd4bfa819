/-! the class's two references; sets of what is written, where counts are kept apart -/
section ZRF
theorem ty_C.refs {W : Nat → Nat → Prop} {J : pm_H → Prop} (H : ty_C W J) (t0 t1 : Nat) : ty_C W (fun h => J h ∧ hs_fR h 0 0 = t0 ∧ hs_fR h 0 1 = t1) := by
  have oth : ∀ (h : pm_H) (a : Nat) (c : pm_C), a ≠ 0 → (hs_fR h 0 0 = t0 ∧ hs_fR h 0 1 = t1) → (hs_fR (pm_hset h a c) 0 0 = t0 ∧ hs_fR (pm_hset h a c) 0 1 = t1) :=
    fun h a c e p => ⟨(ty_fR_ne (Ne.symm e)).trans p.1, (ty_fR_ne (Ne.symm e)).trans p.2⟩
  have key : ∀ (h : pm_H) (a ci k t : Nat) (fs : List (Nat × Nat)) (v : Value), hs_sh a = (10 + ci, 0, fs) → fs[k]? = some (t, 0) → t < 3 → (hs_fR h 0 0 = t0 ∧ hs_fR h 0 1 = t1) → (hs_fR (hs_sF h a ci k v) 0 0 = t0 ∧ hs_fR (hs_sF h a ci k v) 0 1 = t1) := by
    intro h a ci k t fs v e1 e2 e3 p
    by_cases e : a = 0
    · subst e
      have ef : (hs_sh 0).2.2 = fs := by rw [e1]
      rw [← ef] at e2
      have n0 : k ≠ 0 := fun q => by
        subst q
        have q : some ((4 : Nat), (0 : Nat)) = some (t, 0) := e2
        cases q
        omega
      have n1 : k ≠ 1 := fun q => by
        subst q
        have q : some ((4 : Nat), (0 : Nat)) = some (t, 0) := e2
        cases q
        omega
      exact ⟨(ty_fR_sF n0).trans p.1, (ty_fR_sF n1).trans p.2⟩
    · exact oth h a _ e p
  refine ⟨fun h j => H.1 h j.1, fun h a ci k u fs t j w a1 a2 a3 a4 a5 a6 => ⟨H.2.1 h a ci k u fs t j.1 w a1 a2 a3 a4 a5 a6, key h a ci k t fs _ a2 a3 (by omega) j.2⟩, fun h a ci k u fs j w a1 a2 a3 a4 a5 => ⟨H.2.2.1 h a ci k u fs j.1 w a1 a2 a3 a4 a5, key h a ci k 2 fs _ a2 a3 (by decide) j.2⟩, fun h a n i t x j w a1 a2 a3 a4 a5 a6 a7 => ⟨H.2.2.2.1 h a n i t x j.1 w a1 a2 a3 a4 a5 a6 a7, oth h a _ (fun e => ?_) j.2⟩, fun h a n i x j w a1 a2 a3 => ⟨H.2.2.2.2.1 h a n i x j.1 w a1 a2 a3, oth h a _ (fun e => ?_) j.2⟩, fun w h j => H.2.2.2.2.2.1 w h j.1, fun w h j => H.2.2.2.2.2.2.1 w h j.1, fun w => ⟨fun h j => (H.2.2.2.2.2.2.2.1 w).1 h j.1, fun h u v j a1 a2 a3 a4 => ⟨(H.2.2.2.2.2.2.2.1 w).2 h u v j.1 a1 a2 a3 a4, oth _ 62 _ (by decide) (oth h 62 _ (by decide) j.2)⟩⟩, fun h t j q p w a1 a2 a3 => ⟨H.2.2.2.2.2.2.2.2 h t j q p.1 w a1 a2 a3, oth h (t + 10) _ (by omega) p.2⟩⟩
  · subst e
    have q : (20 : Nat) = t := congrArg (fun q => q.1) a2
    omega
  · subst e
    have q : (20 : Nat) = 1 := congrArg (fun q => q.1) a2
    omega
theorem tw_fld {t k : Nat} (ht : ty_tr t) (_hk : (k != 0 && k != 3 && k != 10) = true ∨ True) : ty_Wc t k := by
  rcases ht with rfl | rfl | rfl | rfl | rfl <;> (unfold ty_Wc; omega)
theorem tw_arr {t o k : Nat} (ht : ty_tr t) (ho : (decide (1 ≤ o) && decide (o ≤ 10) && o != 6) = true) : ty_Wc (t + o) k := by
  have h1 : 1 ≤ o ∧ o ≤ 10 ∧ o ≠ 6 := by
    rw [Bool.and_eq_true, Bool.and_eq_true, decide_eq_true_eq, decide_eq_true_eq] at ho
    refine ⟨ho.1.1, ho.1.2, fun e => ?_⟩
    subst e
    cases ho.2
  rcases ht with rfl | rfl | rfl | rfl | rfl <;> (unfold ty_Wc; omega)
theorem tw_ob {t : Nat} (ht : ty_tr t) : 10 ≤ (hs_sh t).1 := by
  rcases ht with rfl | rfl | rfl | rfl | rfl <;> decide
theorem tw_ap {t u : Nat} (ht : ty_tr t) (hu : ty_tr u) (h : t ≠ u) : t + 11 ≤ u ∨ u + 11 ≤ t := by
  rcases ht with rfl | rfl | rfl | rfl | rfl <;> rcases hu with rfl | rfl | rfl | rfl | rfl <;> omega
/-- a train is written anew; what comes behind its lanes -/
def ty_Wtr (t a _k : Nat) : Prop := t ≤ a ∧ a ≤ t + 10
def ty_Wtb (t a _k : Nat) : Prop := t + 6 < a ∧ a ≤ t + 10
/-- one array -/
def ty_Wly (c a _k : Nat) : Prop := a = c
/-- the class, lanes c too -/
def ty_Wcl (c a k : Nat) : Prop := a < 97 ∧ ¬ (a = 62 ∧ k = 1) ∧ a ≠ 63 ∧ ¬ (a = 0 ∧ k = 15) ∧ a ≠ 57 ∧ (a = c ∨ (a ≠ 7 ∧ a ≠ 18 ∧ a ≠ 41 ∧ a ≠ 52))
/-- the class on paper, lanes c are those of now -/
def ty_Wpl (c a k : Nat) : Prop := a < 97 ∧ ¬ (a = 62 ∧ k = 1) ∧ a ≠ 63 ∧ ¬ (a = 0 ∧ k = 15) ∧ a ≠ 57 ∧ a ≠ c ∧ a ≠ 41 ∧ a ≠ 52
/-- image i, its lanes c -/
def ty_Wil (c i a k : Nat) : Prop := a < 97 ∧ ¬ (a = 62 ∧ k = 1) ∧ a ≠ 63 ∧ ¬ (a = 0 ∧ k = 15) ∧ (a = 57 → k = i) ∧ (a = c ∨ (a ≠ 7 ∧ a ≠ 18 ∧ a ≠ 41 ∧ a ≠ 52))
/-- a row of the class, lanes c; while it is read -/
def ty_Wcwl (c a _k : Nat) : Prop := a < 97 ∧ a ≠ 63 ∧ a ≠ 57 ∧ (a = c ∨ (a ≠ 7 ∧ a ≠ 18 ∧ a ≠ 41 ∧ a ≠ 52))
def ty_Wcrl (c a k : Nat) : Prop := a < 97 ∧ a ≠ 63 ∧ a ≠ 57 ∧ ¬ (a = 62 ∧ k = 1) ∧ (a = c ∨ (a ≠ 7 ∧ a ≠ 18 ∧ a ≠ 41 ∧ a ≠ 52))
/-- a lane of the model -/
def ty_Wxl (a k : Nat) : Prop := a = 200 ∨ (97 ≤ a ∧ a < 129 ∧ (a = 97 → k ≠ 11 ∧ k ≠ 13 ∧ k ≠ 20 ∧ k ≠ 21 ∧ k ≠ 23) ∧ (a = 99 → k < 98 ∧ k ≠ 5 ∧ k ≠ 9) ∧ a ≠ 100 ∧ a ≠ 101 ∧ a ≠ 106 ∧ a ≠ 107 ∧ a ≠ 108 ∧ a ≠ 109 ∧ a ≠ 127)
/-- image i of the model -/
def ty_Wxi (i a k : Nat) : Prop := a = 200 ∨ (97 ≤ a ∧ a < 129 ∧ (a = 97 → k ≠ 11 ∧ k ≠ 13 ∧ k ≠ 20 ∧ k ≠ 21 ∧ k ≠ 23) ∧ (a = 99 → (k < 50 ∨ 86 ≤ k) ∧ k < 98 ∧ k ≠ 5 ∧ k ≠ 9) ∧ a ≠ 100 ∧ (a = 101 → k = i) ∧ a ≠ 106 ∧ a ≠ 107 ∧ a ≠ 108 ∧ a ≠ 109 ∧ a ≠ 127)
theorem ty_im34 {X : pm_X} {h : pm_H} (I : ty_I h) : pm_arr X h (.ref 34) = some (4, 2, .inr (.inr (.inr (.inr (hs_aR h 34))))) := by
  have q := I.1.2 34 (by decide)
  have g := I.1.1
  unfold hs_aR
  cases hc : h.2.2 34 with
  | inr x => rw [hc] at q; exact absurd q.1 (by show ¬ 10 + x.1 = 4; omega)
  | inl x =>
    obtain ⟨t, n, A⟩ := x
    rw [hc] at q
    have q1 : t = 4 := q.1
    have q2 : n = 2 := q.2.1
    subst q1
    subst q2
    obtain ⟨f, hf2⟩ := q.2.2
    have hf2 : A = .inr (.inr (.inr (.inr f))) := hf2
    subst hf2
    unfold pm_arr
    dsimp only
    rw [decide_eq_true (show 34 < h.1 by omega), hc]
    rfl
/-- image k of i, by its kind -/
theorem ty_im0 {X : pm_X} {d o : Nat} {ini : Bool} {ret : Option FieldType} {code : List pm_I} {pc : Nat} {ls : pm_Ls} {h : pm_H} {Q : pm_H → Option Value → Prop} {r : List Value} {len a b : Nat} {v : Value} {j : Int32}
    (I : ty_I h) (hf : pm_find code pc = some (.aaload, len, a, b, v)) (h0 : j.toInt = 0) (k : hq_W X d o ini ret code (pc + 1, ls, .ref 35 :: r, h) Q) : hq_W X d o ini ret code (pc, ls, .int j :: .ref 34 :: r, h) Q := by
  have p : pm_arr X h (.ref 34) = some (4, 2, .inr (.inr (.inr (.inr (hs_aR h 34))))) := ty_im34 I
  refine hq_aald hf p rfl (hs_in (by omega) (by omega)) ?_
  rw [nm_nat, h0]
  show hq_W X d o ini ret code (pc + 1, ls, va_rf (hs_aR h 34 0) :: r, h) Q
  rw [I.2.2.2.2.2.1.1]
  exact k
theorem ty_im1 {X : pm_X} {d o : Nat} {ini : Bool} {ret : Option FieldType} {code : List pm_I} {pc : Nat} {ls : pm_Ls} {h : pm_H} {Q : pm_H → Option Value → Prop} {r : List Value} {len a b : Nat} {v : Value} {j : Int32}
    (I : ty_I h) (hf : pm_find code pc = some (.aaload, len, a, b, v)) (h0 : j.toInt = 1) (k : hq_W X d o ini ret code (pc + 1, ls, .ref 46 :: r, h) Q) : hq_W X d o ini ret code (pc, ls, .int j :: .ref 34 :: r, h) Q := by
  have p : pm_arr X h (.ref 34) = some (4, 2, .inr (.inr (.inr (.inr (hs_aR h 34))))) := ty_im34 I
  refine hq_aald hf p rfl (hs_in (by omega) (by omega)) ?_
  rw [nm_nat, h0]
  show hq_W X d o ini ret code (pc + 1, ls, va_rf (hs_aR h 34 1) :: r, h) Q
  rw [I.2.2.2.2.2.1.2]
  exact k
theorem im_u1 {f : Nat → Int32} {i j : Nat} {z : Int32} (e : j = i) (hz : z.toInt = 1) : (upd f i (z &&& 1) j).toInt = 1 := by
  have hz : z = 1 := nm_eqi.mpr (hz.trans (by decide))
  subst hz
  unfold upd
  rw [if_pos e]
  decide
theorem im_u0 {f : Nat → Int32} {i j : Nat} {x : Int32} (e : j ≠ i) : (upd f i x j).toInt = (f j).toInt := by
  unfold upd
  rw [if_neg e]
theorem va_in {src dst : Nat → Int32} {s d k j : Nat} (h1 : d ≤ j) (h2 : j < d + k) : va_cpy src dst s d k j = src (s + (j - d)) := by
  unfold va_cpy
  rw [if_pos ⟨h1, h2⟩]
theorem va_out {src dst : Nat → Int32} {s d k j : Nat} (h1 : ¬ (d ≤ j ∧ j < d + k)) : va_cpy src dst s d k j = dst j := by
  unfold va_cpy
  rw [if_neg h1]
theorem rf_eq {h : pm_H} (I : ty_I h) {b q : Nat} (hb : decide (b < (hs_sh 0).2.2.length) = true) : hs_fR (hs_sF h 0 10 b (.ref q)) 0 b = q := by
  unfold hs_fR
  rw [hs_fV_sF I.1 (fs := (hs_sh 0).2.2) rfl (by decide) (of_decide_eq_true hb)]
theorem ty_bLe {X : pm_X} {d o : Nat} {ini : Bool} {ret : Option FieldType} {code : List pm_I} {pc : Nat} {ls : pm_Ls} {h : pm_H} {Q : pm_H → Option Value → Prop} {r : List Value} {len a b x n : Nat} {v : Value} {j : Int32}
    (I : ty_I h) (hf : pm_find code pc = some (.baload, len, a, b, v)) (hs : hs_sh x = (2, n, [])) (hx : x < 129) (h0 : 0 ≤ j.toInt) (h1 : j.toInt < n) (k : ∀ z : Int32, z.toInt = (hs_aI h x j.toInt.toNat).toInt → -2147483648 ≤ z.toInt → z.toInt ≤ 2147483647 → hq_W X d o ini ret code (pc + 1, ls, .int z :: r, h) Q) : hq_W X d o ini ret code (pc, ls, .int j :: .ref x :: r, h) Q := by
  exact hq_bald hf (hs_barr I.1 hs hx) (hs_in h0 h1) (k _ (by rw [nm_nat]) (nm_lo _) (nm_hi _))
theorem cpx_a {h : pm_H} {x n : Nat} {f : Nat → Int32} : hs_aI (pm_hset h x (.inl (0, n, .inl f))) x = f := by
  unfold hs_aI
  rw [hs_same]
theorem ty_cpyx {X : pm_X} {d o : Nat} {ini : Bool} {ret : Option FieldType} {code : List pm_I} {pc : Nat} {ls : pm_Ls} {h : pm_H} {Q : pm_H → Option Value → Prop} {r : List Value} {W : Nat → Nat → Prop} {J : pm_H → Prop} {ix len b x y n m : Nat} {v : Value} {sp dp c : Int32}
    (H : ty_C W J) (hJ : J h) (hf : pm_find code pc = some (.invokestatic ix, len, 5, b, v)) (hs : hs_sh x = (0, n, [])) (hx : x < 129) (hs' : hs_sh y = (0, m, [])) (hy : y < 129) (h5 : x ≠ 99) (h0 : 0 ≤ sp.toInt) (h1 : 0 ≤ dp.toInt) (h2 : 0 ≤ c.toInt) (h3 : sp.toInt + c.toInt ≤ m) (h4 : dp.toInt + c.toInt ≤ n) (hw : ∀ i : Nat, dp.toInt ≤ i → (i : Int) < dp.toInt + c.toInt → W x i) (hl : ∀ i : Nat, (i : Int) < c.toInt → (ty_a x (dp.toInt.toNat + i)).1 ≤ (ty_a y (sp.toInt.toNat + i)).1 ∧ (ty_a y (sp.toInt.toNat + i)).2 ≤ (ty_a x (dp.toInt.toNat + i)).2) (hr : pm_w8 r = true) (k : ∀ h1, h1 = pm_hset h x (.inl (0, n, .inl (va_cpy (hs_aI h y) (hs_aI h x) sp.toInt.toNat dp.toInt.toNat c.toInt.toNat))) → J h1 → hq_W X d o ini ret code (pc + 3, ls, r, h1) Q) : hq_W X d o ini ret code (pc, ls, .int c :: .int dp :: .ref x :: .int sp :: .ref y :: r, h) Q := by
  have I := H.1 h hJ
  have j := ty_cpyJ (s := sp.toInt.toNat) (d := dp.toInt.toNat) H hJ hs hx hs' hy h5 c.toInt.toNat (by omega) (by omega) (fun i a b => hw i (by omega) (by omega)) (fun i a => hl i (by omega))
  refine hq_W.step 0 hf (s' := (pc + 3, ls, r, pm_hset h x (.inl (0, n, .inl (va_cpy (hs_aI h y) (hs_aI h x) sp.toInt.toNat dp.toInt.toNat c.toInt.toNat))))) ?_ (Nat.le_refl _) (Nat.le_refl _) (k _ rfl j)
  show (match pm_arr X h (.ref y), pm_arr X h (.ref x) with
        | some (t0, n0, .inl f), some (t1, n1, .inl g) => bif t0 == 0 && t1 == 0 && !decide (sp < 0) && !decide (dp < 0) && !decide (c < 0) && decide (sp.toNatClampNeg + c.toNatClampNeg ≤ n0) && decide (dp.toNatClampNeg + c.toNatClampNeg ≤ n1) && pm_w8 r then
            pm_go (pc + 3) ls r (pm_hset h x (.inl (0, n1, .inl (va_cpy f g sp.toNatClampNeg dp.toNatClampNeg c.toNatClampNeg)))) else none
        | _, _ => none) = _
  rw [hs_iarr I.1 hs' hy, hs_iarr I.1 hs hx]
  dsimp only
  have e1 : ¬ sp < 0 := fun q => by have := nm_lt.mp q; rw [nm_0] at this; omega
  have e2 : ¬ dp < 0 := fun q => by have := nm_lt.mp q; rw [nm_0] at this; omega
  have e3 : ¬ c < 0 := fun q => by have := nm_lt.mp q; rw [nm_0] at this; omega
  rw [decide_eq_false e1, decide_eq_false e2, decide_eq_false e3, hr, decide_eq_true (show sp.toNatClampNeg + c.toNatClampNeg ≤ m by rw [nm_nat, nm_nat]; omega), decide_eq_true (show dp.toNatClampNeg + c.toNatClampNeg ≤ n by rw [nm_nat, nm_nat]; omega)]
  rfl
theorem ty_C.segl {W : Nat → Nat → Prop} {J : pm_H → Prop} (H : ty_C W J) (c lo hi : Nat) (hc : c ≠ 62) (h0 : ∀ j, lo ≤ j → j < hi → ¬ W c j) (h1 : (hs_sh c).1 = 0) (R : Nat → Int32) : ty_C W (fun h => J h ∧ ∀ j, lo ≤ j → j < hi → hs_aI h c j = R j) := by
  refine H.and2 (fun h a ci k u p w _ hh => ?_) (fun h a t n j x p w _ e1 e2 => ?_) (fun h a n j x p w _ e1 => ?_) (fun w h u v' p => ?_) (fun h t j w p q2 a1 => ?_)
  · have e : c ≠ a := fun e => by rw [← e, h1] at hh; omega
    exact fun i i0 i1 => (ty_aI_ne e).trans (p i i0 i1)
  · intro i i0 i1
    by_cases e : c = a
    · subst e
      have e3 : i ≠ j := fun e4 => h0 i i0 i1 (e4 ▸ w)
      exact (ty_aI_sA e3).trans (p i i0 i1)
    · exact (ty_aI_ne e).trans (p i i0 i1)
  · have e : c ≠ a := fun e => by rw [e, e1] at h1; cases h1
    exact fun i i0 i1 => (ty_aI_ne e).trans (p i i0 i1)
  · exact fun i i0 i1 => ((ty_aI_ne hc).trans (ty_aI_ne hc)).trans (p i i0 i1)
  · have e : c ≠ t + 10 := fun e => by rw [e, ty_trs10 a1] at h1; cases h1
    exact fun i i0 i1 => (ty_aI_ne e).trans (p i i0 i1)
end ZRF
