/-! TYPED HEAPS: between what ints lie in fields and arrays; predicates closed under the writes that a method may do; contracts over them. -/
section TYP
def ty_F : Int × Int := (-2147483648, 2147483647)
def ty_G : Int × Int := (-9223372036854775808, 9223372036854775807)
/-- the five trains, the two rules, the three sums, the two steps -/
def ty_tr (t : Nat) : Prop := t = 1 ∨ t = 12 ∨ t = 23 ∨ t = 35 ∨ t = 46
def ty_ru (t : Nat) : Prop := t = 72 ∨ t = 77
def ty_sm (t : Nat) : Prop := t = 73 ∨ t = 78 ∨ t = 81
def ty_sp (t : Nat) : Prop := t = 58 ∨ t = 60
/-- a train's fields -/
def ty_tk (k : Nat) : Int × Int := bif k == 0 || k == 3 then (0, 8) else bif k == 8 then (0, 5) else bif k == 10 || k == 14 then (0, 6) else ty_F
/-- the model's fields -/
def ty_mk (k : Nat) : Int × Int := bif k == 8 then (0, 16) else bif k == 13 || k == 14 || k == 15 || k == 23 || k == 29 then (0, 400) else bif k == 21 then (0, 12) else bif k == 26 then (0, 50) else bif k == 30 then (0, 8) else bif k == 34 then (0, 4598) else bif k == 57 || k == 58 then (-1, 8) else ty_F
def ty_f (a k : Nat) : Int × Int := bif a == 1 || a == 12 || a == 23 || a == 35 || a == 46 then ty_tk k else bif a == 97 then ty_mk k else bif a == 62 then (bif k == 1 || k == 3 || k == 4 then (0, 400) else ty_F) else bif a == 58 || a == 60 then (bif k == 1 then (0, 15) else bif k == 2 then (0, 16) else ty_F) else bif a == 64 then (bif k == 0 then (0, 12) else bif k == 6 then (0, 400) else ty_F) else bif a == 86 then (bif k == 4 then (0, 255) else ty_F) else ty_F
def ty_l (a k : Nat) : Int × Int := bif a == 97 && k == 55 then (0, 1000002) else ty_G
/-- the model's row -/
def ty_rb (j : Nat) : Int × Int := bif decide (j < 2) then (0, 8) else bif decide (j < 4) then (0, 6) else bif j == 4 then (-1, 5) else bif j == 5 then (0, 1020) else bif j == 8 then (0, 5) else bif j == 9 then (0, 9999) else bif decide (10 ≤ j) && decide (j < 18) then (0, 9) else bif decide (26 ≤ j) && decide (j < 34) then (-1, 7) else bif decide (34 ≤ j) && decide (j < 42) then (0, 20) else bif decide (50 ≤ j) && decide (j < 86) then (-1, 9) else bif decide (86 ≤ j) && decide (j < 98) && j % 2 == 0 then (0, 7) else ty_F
/-- what is kept of it -/
def ty_sb (j : Nat) : Int × Int := bif j == 5 then (0, 999) else ty_rb j
def ty_a (a j : Nat) : Int × Int := bif a == 99 then ty_rb j else bif a == 100 then ty_sb (j % 5498) else bif a == 102 || a == 104 then ty_sb (5 + j % 29) else bif a == 103 || a == 105 then (0, 3) else bif a == 8 || a == 19 || a == 30 || a == 42 || a == 53 then (0, 7) else bif a == 59 || a == 61 then (bif j % 28 == 24 then (0, 5) else ty_F) else bif a == 87 then (0, 255) else bif a == 71 then (0, 1000) else ty_F
def hs_aR (h : pm_H) (a : Nat) : Nat → Option Nat := match h.2.2 a with
  | .inl (_, _, .inr (.inr (.inr (.inr f)))) => f
  | _ => fun _ => none
def hs_fR (h : pm_H) (a k : Nat) : Nat := match hs_fV h a k with
  | .ref q => q
  | _ => 0
/-- a law's text of the class, c clauses, l operations -/
def ty_ty (h : pm_H) (x : Nat) (c l : Int32) : Prop := 129 ≤ x ∧ x + 7 < h.1 ∧ 0 ≤ c.toInt ∧ c.toInt ≤ 12 ∧ 0 ≤ l.toInt ∧ l.toInt ≤ 400 ∧ (∃ p, h.2.2 x = .inr (7, [.int c, .ref (x + 1), .ref (x + 2), .ref (x + 3), .ref (x + 4), .ref (x + 5), .int l, .ref (x + 6), .ref (x + 7), .int p])) ∧ (∀ i, 1 ≤ i → i < 6 → ∃ f, h.2.2 (x + i) = .inl (0, c.toInt.toNat, .inl f)) ∧ (∃ f, h.2.2 (x + 6) = .inl (0, l.toInt.toNat, .inl f)) ∧ (∃ f : Nat → Int32, h.2.2 (x + 7) = .inl (0, l.toInt.toNat, .inl f) ∧ ∀ j, j < l.toInt.toNat → 0 ≤ (f j).toInt ∧ (f j).toInt ≤ 1000)
def ty_tx (h : pm_H) (x : Nat) : Prop := ∃ c l, ty_ty h x c l
/-- the model's code is a sum's or a test's -/
def ty_cw (op ar : Nat → Int) (s e : Int) : Prop := ∃ D : Nat → Int, ∀ k : Nat, s ≤ k → (k : Int) ≤ e → 0 ≤ D k ∧ D k ≤ k - s ∧ ((k : Int) < e → 0 ≤ op k ∧ (op k < 20 → op k ≤ 12 ∧ D (k + 1) = D k + 1) ∧ (20 ≤ op k → op k < 28 → 2 ≤ D k ∧ D (k + 1) = D k - 1) ∧ (op k = 28 → 1 ≤ D k ∧ D (k + 1) = D k) ∧ (29 ≤ op k → 1 ≤ D k ∧ D (k + 1) = D k - 1 ∧ k < ar k ∧ ar k ≤ e ∧ D (ar k).toNat = D k))
def ty_rw (R : Nat → Int32) (b : Nat) (s e : Int) : Prop := 0 ≤ s ∧ s ≤ e ∧ e ≤ 400 ∧ ty_cw (fun k => (R (b + 98 + 2 * k)).toInt) (fun k => (R (b + 98 + 2 * k + 1)).toInt) s e
def ty_lw (R : Nat → Int32) (b : Nat) : Prop := 0 ≤ (R (b + 1)).toInt ∧ (R (b + 1)).toInt ≤ 12 ∧ ∀ c : Nat, (c : Int) < (R (b + 1)).toInt → ty_rw R b (R (b + 2 + 8 * c + 3)).toInt (R (b + 2 + 8 * c + 4)).toInt ∧ ty_rw R b (R (b + 2 + 8 * c + 5)).toInt (R (b + 2 + 8 * c + 6)).toInt
def ty_X (h : pm_H) : Prop := (∀ t, ty_tr t → ∀ j, j < 6 → ∀ x, hs_aR h (t + 10) j = some x → ty_tx h x) ∧ (hs_aR h 34 0 = some 35 ∧ hs_aR h 34 1 = some 46) ∧ (∀ l, l < 6 → ty_lw (hs_aI h 99) (98 + 900 * l)) ∧ (∀ i l, i < 2 → l < 6 → ty_lw (fun j => hs_aI h 100 (5498 * i + j)) (98 + 900 * l))
def ty_I (h : pm_H) : Prop := hs_Shape h ∧ (∀ a k, a < 129 → (ty_f a k).1 ≤ (hs_fI h a k).toInt ∧ (hs_fI h a k).toInt ≤ (ty_f a k).2) ∧ (∀ a k, a < 129 → (ty_l a k).1 ≤ (hs_fL h a k).toInt ∧ (hs_fL h a k).toInt ≤ (ty_l a k).2) ∧ (∀ a j, a < 129 → j < (hs_sh a).2.1 → (ty_a a j).1 ≤ (hs_aI h a j).toInt ∧ (hs_aI h a j).toInt ≤ (ty_a a j).2) ∧ ty_X h
/-- a law's text is put into a train -/
def hs_sR (h : pm_H) (a j : Nat) (w : Option Nat) : pm_H := pm_hset h a (.inl (3, 6, .inr (.inr (.inr (.inr (va_up (hs_aR h a) j w))))))
/-- the token: digits alone, if it begins so -/
def ty_dg (h : pm_H) (u v : Int) : Prop := 48 ≤ (hs_aI h 63 u.toNat).toInt → (hs_aI h 63 u.toNat).toInt ≤ 57 → ∀ i : Nat, u ≤ i → (i : Int) < v → 48 ≤ (hs_aI h 63 i).toInt ∧ (hs_aI h 63 i).toInt ≤ 57
def ty_ad (h : pm_H) (u v : Int32) : pm_H := hs_sF (hs_sF h 62 3 3 (.int u)) 62 3 4 (.int v)
/-- J speaks of typed heaps, and bears every write that W allows; 200: nothing is ordered; 201: the token is one -/
def ty_C (W : Nat → Nat → Prop) (J : pm_H → Prop) : Prop := (∀ h, J h → ty_I h) ∧
  (∀ (h : pm_H) (a ci k : Nat) (u : Int32) (fs : List (Nat × Nat)) (t : Nat), J h → W a k → a < 129 → hs_sh a = (10 + ci, 0, fs) → fs[k]? = some (t, 0) → (t = 0 ∨ (t = 1 ∧ (u = 0 ∨ u = 1))) → (ty_f a k).1 ≤ u.toInt → u.toInt ≤ (ty_f a k).2 → J (hs_sF h a ci k (.int u))) ∧
  (∀ (h : pm_H) (a ci k : Nat) (u : Int64) (fs : List (Nat × Nat)), J h → W a k → a < 129 → hs_sh a = (10 + ci, 0, fs) → fs[k]? = some (2, 0) → (ty_l a k).1 ≤ u.toInt → u.toInt ≤ (ty_l a k).2 → J (hs_sF h a ci k (.long u))) ∧
  (∀ (h : pm_H) (a n j t : Nat) (x : Int32), J h → W a j → a < 129 → hs_sh a = (t, n, []) → (t = 0 ∨ t = 2) → j < n → (ty_a a j).1 ≤ x.toInt → x.toInt ≤ (ty_a a j).2 → (a = 99 → j = 5 → W 202 0 → x.toInt ≤ 999) → J (hs_sA h a t n j x)) ∧
  (∀ (h : pm_H) (a n j : Nat) (x : Int64), J h → W a j → a < 129 → hs_sh a = (1, n, []) → j < n → J (hs_sL h a n j x)) ∧
  (W 202 0 → ∀ h, J h → (hs_aI h 99 5).toInt ≤ 999) ∧
  (W 200 0 → ∀ h, J h → (hs_fI h 97 20).toInt = 0) ∧
  (W 201 0 → (∀ h, J h → ty_dg h (hs_fI h 62 3).toInt (hs_fI h 62 4).toInt) ∧ ∀ h u v, J h → 0 ≤ u.toInt → u.toInt ≤ v.toInt → v.toInt ≤ 400 → ty_dg h u.toInt v.toInt → J (ty_ad h u v)) ∧
  (∀ (h : pm_H) (t j : Nat) (w : Option Nat), J h → W (t + 10) j → ty_tr t → j < 6 → (∀ x, w = some x → ty_tx h x) → J (hs_sR h (t + 10) j w))
theorem ty_C.mono {W W' : Nat → Nat → Prop} {J : pm_H → Prop} (hW : ∀ a k, W' a k → W a k) (h5 : W' 99 5 → W 202 0 → W' 202 0) (H : ty_C W J) : ty_C W' J :=
  ⟨H.1, fun h a ci k u fs t j w => H.2.1 h a ci k u fs t j (hW _ _ w), fun h a ci k u fs j w => H.2.2.1 h a ci k u fs j (hW _ _ w), fun h a n i t x j w a1 a2 a3 a4 a5 a6 a7 => H.2.2.2.1 h a n i t x j (hW _ _ w) a1 a2 a3 a4 a5 a6 (fun e1 e2 w2 => a7 e1 e2 (h5 (by rw [← e1, ← e2]; exact w) w2)), fun h a n i x j w => H.2.2.2.2.1 h a n i x j (hW _ _ w), fun w => H.2.2.2.2.2.1 (hW _ _ w), fun w => H.2.2.2.2.2.2.1 (hW _ _ w), fun w => H.2.2.2.2.2.2.2.1 (hW _ _ w), fun h t j q p w => H.2.2.2.2.2.2.2.2 h t j q p (hW _ _ w)⟩
theorem ty_C.and {W : Nat → Nat → Prop} {J P : pm_H → Prop} (H : ty_C W J) (hP : ∀ h a c, P h → a < 129 → P (pm_hset h a c)) : ty_C W (fun h => J h ∧ P h) :=
  ⟨fun h j => H.1 h j.1, fun h a ci k u fs t j w a1 a2 a3 a4 a5 a6 => ⟨H.2.1 h a ci k u fs t j.1 w a1 a2 a3 a4 a5 a6, hP h a _ j.2 a1⟩, fun h a ci k u fs j w a1 a2 a3 a4 a5 => ⟨H.2.2.1 h a ci k u fs j.1 w a1 a2 a3 a4 a5, hP h a _ j.2 a1⟩, fun h a n i t x j w a1 a2 a3 a4 a5 a6 a7 => ⟨H.2.2.2.1 h a n i t x j.1 w a1 a2 a3 a4 a5 a6 a7, hP h a _ j.2 a1⟩, fun h a n i x j w a1 a2 a3 => ⟨H.2.2.2.2.1 h a n i x j.1 w a1 a2 a3, hP h a _ j.2 a1⟩, fun w h j => H.2.2.2.2.2.1 w h j.1, fun w h j => H.2.2.2.2.2.2.1 w h j.1, fun w => ⟨fun h j => (H.2.2.2.2.2.2.2.1 w).1 h j.1, fun h u v j a1 a2 a3 a4 => ⟨(H.2.2.2.2.2.2.2.1 w).2 h u v j.1 a1 a2 a3 a4, hP _ 62 _ (hP h 62 _ j.2 (by decide)) (by decide)⟩⟩, fun h t j q p w a1 a2 a3 => ⟨H.2.2.2.2.2.2.2.2 h t j q p.1 w a1 a2 a3, hP h _ _ p.2 (by rcases a1 with rfl | rfl | rfl | rfl | rfl <;> decide)⟩⟩
theorem ty_C.sz {W : Nat → Nat → Prop} {J : pm_H → Prop} (H : ty_C W J) (m n : Nat) (f : Nat → pm_C) : ty_C W (fun h => J h ∧ h.1 = m ∧ h.2.1 = n ∧ ∀ a, 129 ≤ a → h.2.2 a = f a) := H.and (fun h a c p ha => ⟨p.1, p.2.1, fun b hb => (hs_oth (by omega)).trans (p.2.2 b hb)⟩)
/-- no write -/
def ty_W0 (_ _ : Nat) : Prop := False
/-- a method's contract -/
def ty_M (X : pm_X) (W : Nat → Nat → Prop) (d mid : Nat) (args : List Value) (h : pm_H) (P : pm_H → Option Value → Prop) : Prop := ∀ J, ty_C W J → J h → hq_M X d mid args h (fun h' v => J h' ∧ P h' v)
theorem ty_M.pure {X : pm_X} {d mid : Nat} {args : List Value} {h : pm_H} {P : pm_H → Option Value → Prop} (I : ty_I h) (c : ty_M X ty_W0 d mid args h P) : hq_M X d mid args h (fun h' v => h' = h ∧ P h v) := by
  refine (c (fun h' => h' = h ∧ ty_I h') ?_ ⟨rfl, I⟩).mono (Nat.le_refl _) (fun h' v k => ?_)
  · exact ⟨fun h' k => k.2, fun _ _ _ _ _ _ _ _ w => w.elim, fun _ _ _ _ _ _ _ w => w.elim, fun _ _ _ _ _ _ _ w => w.elim, fun _ _ _ _ _ _ w => w.elim, fun w => w.elim, fun w => w.elim, fun w => w.elim, fun _ _ _ _ _ w => w.elim⟩
  · obtain ⟨⟨e, _⟩, p⟩ := k
    subst e
    exact ⟨rfl, p⟩
theorem hs_barr {X : pm_X} {h : pm_H} (S : hs_Shape h) {a n : Nat} (hs : hs_sh a = (2, n, [])) (ha : a < 129) : pm_arr X h (.ref a) = some (2, n, .inl (hs_aI h a)) := by
  have k := S.2 a ha
  rw [hs] at k
  have h1 := S.1
  unfold pm_arr hs_aI
  dsimp only
  rw [decide_eq_true (show a < h.1 by omega)]
  cases hc : h.2.2 a with
  | inr x =>
    rw [hc] at k
    obtain ⟨k1, k2, k3⟩ := k
    exfalso
    dsimp only at k1
    omega
  | inl x =>
    rw [hc] at k
    obtain ⟨t, m, A⟩ := x
    obtain ⟨k1, k2, k3⟩ := k
    dsimp only at k1 k2 k3 ⊢
    subst k1
    subst k2
    obtain ⟨f, hf⟩ := k3
    dsimp only at hf
    subst hf
    rfl
theorem hs_larr {X : pm_X} {h : pm_H} (S : hs_Shape h) {a n : Nat} (hs : hs_sh a = (1, n, [])) (ha : a < 129) : pm_arr X h (.ref a) = some (1, n, .inr (.inl (hs_aL h a))) := by
  have k := S.2 a ha
  rw [hs] at k
  have h1 := S.1
  unfold pm_arr hs_aL
  dsimp only
  rw [decide_eq_true (show a < h.1 by omega)]
  cases hc : h.2.2 a with
  | inr x =>
    rw [hc] at k
    obtain ⟨k1, k2, k3⟩ := k
    exfalso
    dsimp only at k1
    omega
  | inl x =>
    rw [hc] at k
    obtain ⟨t, m, A⟩ := x
    obtain ⟨k1, k2, k3⟩ := k
    dsimp only at k1 k2 k3 ⊢
    subst k1
    subst k2
    obtain ⟨f, hf⟩ := k3
    dsimp only at hf
    subst hf
    rfl
theorem hs_get {h : pm_H} (S : hs_Shape h) {a ci k : Nat} {fs : List (Nat × Nat)} {f : Nat × Nat} (hs : hs_sh a = (10 + ci, 0, fs)) (ha : a < 129) (hf : fs[k]? = some f) : (hs_vs h a)[k]? = some (hs_fV h a k) := by
  obtain ⟨k1, k2, k3⟩ := hs_obj S hs ha
  have hl : k < (hs_vs h a).length := by rw [k2]; exact (List.getElem?_eq_some_iff.mp hf).1
  unfold hs_fV
  rw [List.getD_eq_getElem?_getD, List.getElem?_eq_getElem hl]
  rfl
theorem ty_ge {X : pm_X} {d o : Nat} {ini : Bool} {ret : Option FieldType} {code : List pm_I} {pc : Nat} {ls : pm_Ls} {h : pm_H} {Q : pm_H → Option Value → Prop} {r : List Value} {c : Int32} {n : Int}
    (hc : c.toInt = n) (k : ∀ z : Int32, z.toInt = n → hq_W X d o ini ret code (pc, ls, .int z :: r, h) Q) : hq_W X d o ini ret code (pc, ls, .int c :: r, h) Q := by
  exact k c hc
theorem ty_gb {X : pm_X} {d o : Nat} {ini : Bool} {ret : Option FieldType} {code : List pm_I} {pc : Nat} {ls : pm_Ls} {h : pm_H} {Q : pm_H → Option Value → Prop} {r : List Value} {c : Int32} {lo hi : Int}
    (hc : lo ≤ c.toInt ∧ c.toInt ≤ hi) (k : ∀ z : Int32, lo ≤ z.toInt → z.toInt ≤ hi → hq_W X d o ini ret code (pc, ls, .int z :: r, h) Q) : hq_W X d o ini ret code (pc, ls, .int c :: r, h) Q := by
  exact k c hc.1 hc.2
theorem ty_ga {X : pm_X} {d o : Nat} {ini : Bool} {ret : Option FieldType} {code : List pm_I} {pc : Nat} {ls : pm_Ls} {h : pm_H} {Q : pm_H → Option Value → Prop} {r : List Value} {c : Int32}
    (k : ∀ z : Int32, -2147483648 ≤ z.toInt → z.toInt ≤ 2147483647 → hq_W X d o ini ret code (pc, ls, .int z :: r, h) Q) : hq_W X d o ini ret code (pc, ls, .int c :: r, h) Q := by
  exact k c (nm_lo c) (nm_hi c)
theorem ty_gle {X : pm_X} {d o : Nat} {ini : Bool} {ret : Option FieldType} {code : List pm_I} {pc : Nat} {ls : pm_Ls} {h : pm_H} {Q : pm_H → Option Value → Prop} {r : List Value} {c : Int64} {n : Int}
    (hc : c.toInt = n) (k : ∀ z : Int64, z.toInt = n → hq_W X d o ini ret code (pc, ls, .long z :: r, h) Q) : hq_W X d o ini ret code (pc, ls, .long c :: r, h) Q := by
  exact k c hc
theorem ty_gla {X : pm_X} {d o : Nat} {ini : Bool} {ret : Option FieldType} {code : List pm_I} {pc : Nat} {ls : pm_Ls} {h : pm_H} {Q : pm_H → Option Value → Prop} {r : List Value} {c : Int64}
    (k : ∀ z : Int64, -9223372036854775808 ≤ z.toInt → z.toInt ≤ 9223372036854775807 → hq_W X d o ini ret code (pc, ls, .long z :: r, h) Q) : hq_W X d o ini ret code (pc, ls, .long c :: r, h) Q := by
  exact k c (nm_llo c) (nm_lhi c)
theorem ty_gc {X : pm_X} {d o : Nat} {ini : Bool} {ret : Option FieldType} {code : List pm_I} {pc : Nat} {ls : pm_Ls} {h : pm_H} {Q : pm_H → Option Value → Prop} {r : List Value} {x y : Int64}
    (k : ∀ z : Int32, ((x.toInt < y.toInt ∧ z.toInt = -1) ∨ (x.toInt = y.toInt ∧ z.toInt = 0) ∨ (y.toInt < x.toInt ∧ z.toInt = 1)) → hq_W X d o ini ret code (pc, ls, .int z :: r, h) Q) : hq_W X d o ini ret code (pc, ls, .int (lg_cmp x y) :: r, h) Q := by
  exact k _ (nm_cmp x y)
theorem nm_pieq {x y : Int32} : (pm_cmp .eq x y = true → x.toInt = y.toInt) ∧ (pm_cmp .eq x y = false → x.toInt ≠ y.toInt) := by
  by_cases p : x = y
  · have e : pm_cmp .eq x y = true := decide_eq_true p
    rw [e]
    have q := nm_eqi.mp p
    exact ⟨fun u => (by first | omega | cases u), fun u => (by first | omega | cases u)⟩
  · have e : pm_cmp .eq x y = false := decide_eq_false p
    rw [e]
    have q : ¬ (x.toInt = y.toInt) := fun u => p (nm_eqi.mpr u)
    exact ⟨fun u => (by first | omega | cases u), fun u => (by first | omega | cases u)⟩
theorem ty_ieq {X : pm_X} {d o : Nat} {ini : Bool} {ret : Option FieldType} {code : List pm_I} {pc : Nat} {ls : pm_Ls} {h : pm_H} {Q : pm_H → Option Value → Prop} {r : List Value} {off : Int} {len a b : Nat} {v : Value} {x y : Int32}
    (hf : pm_find code pc = some (.if_icmp .eq off, len, a, b, v)) (k1 : x.toInt = y.toInt → hq_W X d o ini ret code (a, ls, r, h) Q) (k2 : x.toInt ≠ y.toInt → hq_W X d o ini ret code (pc + 3, ls, r, h) Q) : hq_W X d o ini ret code (pc, ls, .int y :: .int x :: r, h) Q := by
  exact hq_ifi hf (fun e => k1 (nm_pieq.1 e)) (fun e => k2 (nm_pieq.2 e))
theorem nm_pzeq {x : Int32} : (pm_cmp0 .eq x = true → x.toInt = 0) ∧ (pm_cmp0 .eq x = false → x.toInt ≠ 0) := by
  by_cases p : x = (0 : Int32)
  · have e : pm_cmp0 .eq x = true := decide_eq_true p
    rw [e]
    have q := nm_eqi.mp p
    rw [nm_0] at q
    exact ⟨fun u => (by first | omega | cases u), fun u => (by first | omega | cases u)⟩
  · have e : pm_cmp0 .eq x = false := decide_eq_false p
    rw [e]
    have q : ¬ (x.toInt = (0 : Int32).toInt) := fun u => p (nm_eqi.mpr u)
    rw [nm_0] at q
    exact ⟨fun u => (by first | omega | cases u), fun u => (by first | omega | cases u)⟩
theorem ty_zeq {X : pm_X} {d o : Nat} {ini : Bool} {ret : Option FieldType} {code : List pm_I} {pc : Nat} {ls : pm_Ls} {h : pm_H} {Q : pm_H → Option Value → Prop} {r : List Value} {off : Int} {len a b : Nat} {v : Value} {x : Int32}
    (hf : pm_find code pc = some (.ifCond .eq off, len, a, b, v)) (k1 : x.toInt = 0 → hq_W X d o ini ret code (a, ls, r, h) Q) (k2 : x.toInt ≠ 0 → hq_W X d o ini ret code (pc + 3, ls, r, h) Q) : hq_W X d o ini ret code (pc, ls, .int x :: r, h) Q := by
  exact hq_if hf (fun e => k1 (nm_pzeq.1 e)) (fun e => k2 (nm_pzeq.2 e))
theorem nm_pine {x y : Int32} : (pm_cmp .ne x y = true → x.toInt ≠ y.toInt) ∧ (pm_cmp .ne x y = false → x.toInt = y.toInt) := by
  by_cases p : x = y
  · have e : pm_cmp .ne x y = false := congrArg (fun b : Bool => !b) (decide_eq_true p)
    rw [e]
    have q := nm_eqi.mp p
    exact ⟨fun u => (by first | omega | cases u), fun u => (by first | omega | cases u)⟩
  · have e : pm_cmp .ne x y = true := congrArg (fun b : Bool => !b) (decide_eq_false p)
    rw [e]
    have q : ¬ (x.toInt = y.toInt) := fun u => p (nm_eqi.mpr u)
    exact ⟨fun u => (by first | omega | cases u), fun u => (by first | omega | cases u)⟩
theorem ty_ine {X : pm_X} {d o : Nat} {ini : Bool} {ret : Option FieldType} {code : List pm_I} {pc : Nat} {ls : pm_Ls} {h : pm_H} {Q : pm_H → Option Value → Prop} {r : List Value} {off : Int} {len a b : Nat} {v : Value} {x y : Int32}
    (hf : pm_find code pc = some (.if_icmp .ne off, len, a, b, v)) (k1 : x.toInt ≠ y.toInt → hq_W X d o ini ret code (a, ls, r, h) Q) (k2 : x.toInt = y.toInt → hq_W X d o ini ret code (pc + 3, ls, r, h) Q) : hq_W X d o ini ret code (pc, ls, .int y :: .int x :: r, h) Q := by
  exact hq_ifi hf (fun e => k1 (nm_pine.1 e)) (fun e => k2 (nm_pine.2 e))
theorem nm_pzne {x : Int32} : (pm_cmp0 .ne x = true → x.toInt ≠ 0) ∧ (pm_cmp0 .ne x = false → x.toInt = 0) := by
  by_cases p : x = (0 : Int32)
  · have e : pm_cmp0 .ne x = false := congrArg (fun b : Bool => !b) (decide_eq_true p)
    rw [e]
    have q := nm_eqi.mp p
    rw [nm_0] at q
    exact ⟨fun u => (by first | omega | cases u), fun u => (by first | omega | cases u)⟩
  · have e : pm_cmp0 .ne x = true := congrArg (fun b : Bool => !b) (decide_eq_false p)
    rw [e]
    have q : ¬ (x.toInt = (0 : Int32).toInt) := fun u => p (nm_eqi.mpr u)
    rw [nm_0] at q
    exact ⟨fun u => (by first | omega | cases u), fun u => (by first | omega | cases u)⟩
theorem ty_zne {X : pm_X} {d o : Nat} {ini : Bool} {ret : Option FieldType} {code : List pm_I} {pc : Nat} {ls : pm_Ls} {h : pm_H} {Q : pm_H → Option Value → Prop} {r : List Value} {off : Int} {len a b : Nat} {v : Value} {x : Int32}
    (hf : pm_find code pc = some (.ifCond .ne off, len, a, b, v)) (k1 : x.toInt ≠ 0 → hq_W X d o ini ret code (a, ls, r, h) Q) (k2 : x.toInt = 0 → hq_W X d o ini ret code (pc + 3, ls, r, h) Q) : hq_W X d o ini ret code (pc, ls, .int x :: r, h) Q := by
  exact hq_if hf (fun e => k1 (nm_pzne.1 e)) (fun e => k2 (nm_pzne.2 e))
theorem nm_pilt {x y : Int32} : (pm_cmp .lt x y = true → x.toInt < y.toInt) ∧ (pm_cmp .lt x y = false → x.toInt ≥ y.toInt) := by
  by_cases p : x < y
  · have e : pm_cmp .lt x y = true := decide_eq_true p
    rw [e]
    have q := nm_lt.mp p
    exact ⟨fun u => (by first | omega | cases u), fun u => (by first | omega | cases u)⟩
  · have e : pm_cmp .lt x y = false := decide_eq_false p
    rw [e]
    have q : ¬ (x.toInt < y.toInt) := fun u => p (nm_lt.mpr u)
    exact ⟨fun u => (by first | omega | cases u), fun u => (by first | omega | cases u)⟩
theorem ty_ilt {X : pm_X} {d o : Nat} {ini : Bool} {ret : Option FieldType} {code : List pm_I} {pc : Nat} {ls : pm_Ls} {h : pm_H} {Q : pm_H → Option Value → Prop} {r : List Value} {off : Int} {len a b : Nat} {v : Value} {x y : Int32}
    (hf : pm_find code pc = some (.if_icmp .lt off, len, a, b, v)) (k1 : x.toInt < y.toInt → hq_W X d o ini ret code (a, ls, r, h) Q) (k2 : x.toInt ≥ y.toInt → hq_W X d o ini ret code (pc + 3, ls, r, h) Q) : hq_W X d o ini ret code (pc, ls, .int y :: .int x :: r, h) Q := by
  exact hq_ifi hf (fun e => k1 (nm_pilt.1 e)) (fun e => k2 (nm_pilt.2 e))
theorem nm_pzlt {x : Int32} : (pm_cmp0 .lt x = true → x.toInt < 0) ∧ (pm_cmp0 .lt x = false → x.toInt ≥ 0) := by
  by_cases p : x < (0 : Int32)
  · have e : pm_cmp0 .lt x = true := decide_eq_true p
    rw [e]
    have q := nm_lt.mp p
    rw [nm_0] at q
    exact ⟨fun u => (by first | omega | cases u), fun u => (by first | omega | cases u)⟩
  · have e : pm_cmp0 .lt x = false := decide_eq_false p
    rw [e]
    have q : ¬ (x.toInt < (0 : Int32).toInt) := fun u => p (nm_lt.mpr u)
    rw [nm_0] at q
    exact ⟨fun u => (by first | omega | cases u), fun u => (by first | omega | cases u)⟩
theorem ty_zlt {X : pm_X} {d o : Nat} {ini : Bool} {ret : Option FieldType} {code : List pm_I} {pc : Nat} {ls : pm_Ls} {h : pm_H} {Q : pm_H → Option Value → Prop} {r : List Value} {off : Int} {len a b : Nat} {v : Value} {x : Int32}
    (hf : pm_find code pc = some (.ifCond .lt off, len, a, b, v)) (k1 : x.toInt < 0 → hq_W X d o ini ret code (a, ls, r, h) Q) (k2 : x.toInt ≥ 0 → hq_W X d o ini ret code (pc + 3, ls, r, h) Q) : hq_W X d o ini ret code (pc, ls, .int x :: r, h) Q := by
  exact hq_if hf (fun e => k1 (nm_pzlt.1 e)) (fun e => k2 (nm_pzlt.2 e))
theorem nm_pige {x y : Int32} : (pm_cmp .ge x y = true → x.toInt ≥ y.toInt) ∧ (pm_cmp .ge x y = false → x.toInt < y.toInt) := by
  by_cases p : y ≤ x
  · have e : pm_cmp .ge x y = true := decide_eq_true p
    rw [e]
    have q := nm_le.mp p
    exact ⟨fun u => (by first | omega | cases u), fun u => (by first | omega | cases u)⟩
  · have e : pm_cmp .ge x y = false := decide_eq_false p
    rw [e]
    have q : ¬ (y.toInt ≤ x.toInt) := fun u => p (nm_le.mpr u)
    exact ⟨fun u => (by first | omega | cases u), fun u => (by first | omega | cases u)⟩
theorem ty_ige {X : pm_X} {d o : Nat} {ini : Bool} {ret : Option FieldType} {code : List pm_I} {pc : Nat} {ls : pm_Ls} {h : pm_H} {Q : pm_H → Option Value → Prop} {r : List Value} {off : Int} {len a b : Nat} {v : Value} {x y : Int32}
    (hf : pm_find code pc = some (.if_icmp .ge off, len, a, b, v)) (k1 : x.toInt ≥ y.toInt → hq_W X d o ini ret code (a, ls, r, h) Q) (k2 : x.toInt < y.toInt → hq_W X d o ini ret code (pc + 3, ls, r, h) Q) : hq_W X d o ini ret code (pc, ls, .int y :: .int x :: r, h) Q := by
  exact hq_ifi hf (fun e => k1 (nm_pige.1 e)) (fun e => k2 (nm_pige.2 e))
theorem nm_pzge {x : Int32} : (pm_cmp0 .ge x = true → x.toInt ≥ 0) ∧ (pm_cmp0 .ge x = false → x.toInt < 0) := by
  by_cases p : (0 : Int32) ≤ x
  · have e : pm_cmp0 .ge x = true := decide_eq_true p
    rw [e]
    have q := nm_le.mp p
    rw [nm_0] at q
    exact ⟨fun u => (by first | omega | cases u), fun u => (by first | omega | cases u)⟩
  · have e : pm_cmp0 .ge x = false := decide_eq_false p
    rw [e]
    have q : ¬ ((0 : Int32).toInt ≤ x.toInt) := fun u => p (nm_le.mpr u)
    rw [nm_0] at q
    exact ⟨fun u => (by first | omega | cases u), fun u => (by first | omega | cases u)⟩
theorem ty_zge {X : pm_X} {d o : Nat} {ini : Bool} {ret : Option FieldType} {code : List pm_I} {pc : Nat} {ls : pm_Ls} {h : pm_H} {Q : pm_H → Option Value → Prop} {r : List Value} {off : Int} {len a b : Nat} {v : Value} {x : Int32}
    (hf : pm_find code pc = some (.ifCond .ge off, len, a, b, v)) (k1 : x.toInt ≥ 0 → hq_W X d o ini ret code (a, ls, r, h) Q) (k2 : x.toInt < 0 → hq_W X d o ini ret code (pc + 3, ls, r, h) Q) : hq_W X d o ini ret code (pc, ls, .int x :: r, h) Q := by
  exact hq_if hf (fun e => k1 (nm_pzge.1 e)) (fun e => k2 (nm_pzge.2 e))
theorem nm_pigt {x y : Int32} : (pm_cmp .gt x y = true → x.toInt > y.toInt) ∧ (pm_cmp .gt x y = false → x.toInt ≤ y.toInt) := by
  by_cases p : y < x
  · have e : pm_cmp .gt x y = true := decide_eq_true p
    rw [e]
    have q := nm_lt.mp p
    exact ⟨fun u => (by first | omega | cases u), fun u => (by first | omega | cases u)⟩
  · have e : pm_cmp .gt x y = false := decide_eq_false p
    rw [e]
    have q : ¬ (y.toInt < x.toInt) := fun u => p (nm_lt.mpr u)
    exact ⟨fun u => (by first | omega | cases u), fun u => (by first | omega | cases u)⟩
theorem ty_igt {X : pm_X} {d o : Nat} {ini : Bool} {ret : Option FieldType} {code : List pm_I} {pc : Nat} {ls : pm_Ls} {h : pm_H} {Q : pm_H → Option Value → Prop} {r : List Value} {off : Int} {len a b : Nat} {v : Value} {x y : Int32}
    (hf : pm_find code pc = some (.if_icmp .gt off, len, a, b, v)) (k1 : x.toInt > y.toInt → hq_W X d o ini ret code (a, ls, r, h) Q) (k2 : x.toInt ≤ y.toInt → hq_W X d o ini ret code (pc + 3, ls, r, h) Q) : hq_W X d o ini ret code (pc, ls, .int y :: .int x :: r, h) Q := by
  exact hq_ifi hf (fun e => k1 (nm_pigt.1 e)) (fun e => k2 (nm_pigt.2 e))
theorem nm_pzgt {x : Int32} : (pm_cmp0 .gt x = true → x.toInt > 0) ∧ (pm_cmp0 .gt x = false → x.toInt ≤ 0) := by
  by_cases p : (0 : Int32) < x
  · have e : pm_cmp0 .gt x = true := decide_eq_true p
    rw [e]
    have q := nm_lt.mp p
    rw [nm_0] at q
    exact ⟨fun u => (by first | omega | cases u), fun u => (by first | omega | cases u)⟩
  · have e : pm_cmp0 .gt x = false := decide_eq_false p
    rw [e]
    have q : ¬ ((0 : Int32).toInt < x.toInt) := fun u => p (nm_lt.mpr u)
    rw [nm_0] at q
    exact ⟨fun u => (by first | omega | cases u), fun u => (by first | omega | cases u)⟩
theorem ty_zgt {X : pm_X} {d o : Nat} {ini : Bool} {ret : Option FieldType} {code : List pm_I} {pc : Nat} {ls : pm_Ls} {h : pm_H} {Q : pm_H → Option Value → Prop} {r : List Value} {off : Int} {len a b : Nat} {v : Value} {x : Int32}
    (hf : pm_find code pc = some (.ifCond .gt off, len, a, b, v)) (k1 : x.toInt > 0 → hq_W X d o ini ret code (a, ls, r, h) Q) (k2 : x.toInt ≤ 0 → hq_W X d o ini ret code (pc + 3, ls, r, h) Q) : hq_W X d o ini ret code (pc, ls, .int x :: r, h) Q := by
  exact hq_if hf (fun e => k1 (nm_pzgt.1 e)) (fun e => k2 (nm_pzgt.2 e))
theorem nm_pile {x y : Int32} : (pm_cmp .le x y = true → x.toInt ≤ y.toInt) ∧ (pm_cmp .le x y = false → x.toInt > y.toInt) := by
  by_cases p : x ≤ y
  · have e : pm_cmp .le x y = true := decide_eq_true p
    rw [e]
    have q := nm_le.mp p
    exact ⟨fun u => (by first | omega | cases u), fun u => (by first | omega | cases u)⟩
  · have e : pm_cmp .le x y = false := decide_eq_false p
    rw [e]
    have q : ¬ (x.toInt ≤ y.toInt) := fun u => p (nm_le.mpr u)
    exact ⟨fun u => (by first | omega | cases u), fun u => (by first | omega | cases u)⟩
theorem ty_ile {X : pm_X} {d o : Nat} {ini : Bool} {ret : Option FieldType} {code : List pm_I} {pc : Nat} {ls : pm_Ls} {h : pm_H} {Q : pm_H → Option Value → Prop} {r : List Value} {off : Int} {len a b : Nat} {v : Value} {x y : Int32}
    (hf : pm_find code pc = some (.if_icmp .le off, len, a, b, v)) (k1 : x.toInt ≤ y.toInt → hq_W X d o ini ret code (a, ls, r, h) Q) (k2 : x.toInt > y.toInt → hq_W X d o ini ret code (pc + 3, ls, r, h) Q) : hq_W X d o ini ret code (pc, ls, .int y :: .int x :: r, h) Q := by
  exact hq_ifi hf (fun e => k1 (nm_pile.1 e)) (fun e => k2 (nm_pile.2 e))
theorem nm_pzle {x : Int32} : (pm_cmp0 .le x = true → x.toInt ≤ 0) ∧ (pm_cmp0 .le x = false → x.toInt > 0) := by
  by_cases p : x ≤ (0 : Int32)
  · have e : pm_cmp0 .le x = true := decide_eq_true p
    rw [e]
    have q := nm_le.mp p
    rw [nm_0] at q
    exact ⟨fun u => (by first | omega | cases u), fun u => (by first | omega | cases u)⟩
  · have e : pm_cmp0 .le x = false := decide_eq_false p
    rw [e]
    have q : ¬ (x.toInt ≤ (0 : Int32).toInt) := fun u => p (nm_le.mpr u)
    rw [nm_0] at q
    exact ⟨fun u => (by first | omega | cases u), fun u => (by first | omega | cases u)⟩
theorem ty_zle {X : pm_X} {d o : Nat} {ini : Bool} {ret : Option FieldType} {code : List pm_I} {pc : Nat} {ls : pm_Ls} {h : pm_H} {Q : pm_H → Option Value → Prop} {r : List Value} {off : Int} {len a b : Nat} {v : Value} {x : Int32}
    (hf : pm_find code pc = some (.ifCond .le off, len, a, b, v)) (k1 : x.toInt ≤ 0 → hq_W X d o ini ret code (a, ls, r, h) Q) (k2 : x.toInt > 0 → hq_W X d o ini ret code (pc + 3, ls, r, h) Q) : hq_W X d o ini ret code (pc, ls, .int x :: r, h) Q := by
  exact hq_if hf (fun e => k1 (nm_pzle.1 e)) (fun e => k2 (nm_pzle.2 e))
theorem ty_gI {X : pm_X} {d o : Nat} {ini : Bool} {ret : Option FieldType} {code : List pm_I} {pc : Nat} {ls : pm_Ls} {h : pm_H} {Q : pm_H → Option Value → Prop} {r : List Value} {ix len ci b x : Nat} {v : Value} {fs : List (Nat × Nat)} {lo hi : Int}
    (I : ty_I h) (hf : pm_find code pc = some (.getfield ix, len, ci, b, v)) (hs : hs_sh x = (10 + ci, 0, fs)) (hx : x < 129) (hb : b < pm_cn ci) (ht : fs[b]? = some (0, 0)) (hl : ty_f x b = (lo, hi)) (k : ∀ z : Int32, z.toInt = (hs_fI h x b).toInt → lo ≤ z.toInt → z.toInt ≤ hi → hq_W X d o ini ret code (pc + 3, ls, .int z :: r, h) Q) : hq_W X d o ini ret code (pc, ls, .ref x :: r, h) Q := by
  have q := I.2.1 x b hx
  rw [hl] at q
  exact hq_gI I.1 hf hs hx hb ht (k _ rfl q.1 q.2)
theorem ty_gB {X : pm_X} {d o : Nat} {ini : Bool} {ret : Option FieldType} {code : List pm_I} {pc : Nat} {ls : pm_Ls} {h : pm_H} {Q : pm_H → Option Value → Prop} {r : List Value} {ix len ci b x : Nat} {v : Value} {fs : List (Nat × Nat)}
    (I : ty_I h) (hf : pm_find code pc = some (.getfield ix, len, ci, b, v)) (hs : hs_sh x = (10 + ci, 0, fs)) (hx : x < 129) (hb : b < pm_cn ci) (ht : fs[b]? = some (1, 0)) (k : ∀ z : Int32, z.toInt = (hs_fI h x b).toInt → 0 ≤ z.toInt → z.toInt ≤ 1 → hq_W X d o ini ret code (pc + 3, ls, .int z :: r, h) Q) : hq_W X d o ini ret code (pc, ls, .ref x :: r, h) Q := by
  obtain ⟨k1, k2, k3⟩ := hs_obj I.1 hs hx
  have g := hs_get I.1 hs hx ht
  have q := k3 b _ ht
  refine hq_getf hf k1 hb g ?_
  have q : hs_fV h x b = .int 0 ∨ hs_fV h x b = .int 1 := q
  rcases q with q | q
  · have e : hs_fI h x b = 0 := by unfold hs_fI; rw [q]
    rw [q]
    exact k 0 (by rw [e]) (by decide) (by decide)
  · have e : hs_fI h x b = 1 := by unfold hs_fI; rw [q]
    rw [q]
    exact k 1 (by rw [e]) (by decide) (by decide)
theorem ty_gL {X : pm_X} {d o : Nat} {ini : Bool} {ret : Option FieldType} {code : List pm_I} {pc : Nat} {ls : pm_Ls} {h : pm_H} {Q : pm_H → Option Value → Prop} {r : List Value} {ix len ci b x : Nat} {v : Value} {fs : List (Nat × Nat)} {lo hi : Int}
    (I : ty_I h) (hf : pm_find code pc = some (.getfield ix, len, ci, b, v)) (hs : hs_sh x = (10 + ci, 0, fs)) (hx : x < 129) (hb : b < pm_cn ci) (ht : fs[b]? = some (2, 0)) (hl : ty_l x b = (lo, hi)) (k : ∀ z : Int64, z.toInt = (hs_fL h x b).toInt → lo ≤ z.toInt → z.toInt ≤ hi → hq_W X d o ini ret code (pc + 3, ls, .long z :: r, h) Q) : hq_W X d o ini ret code (pc, ls, .ref x :: r, h) Q := by
  have p := I.2.2.1 x b hx
  rw [hl] at p
  obtain ⟨k1, k2, k3⟩ := hs_obj I.1 hs hx
  have g := hs_get I.1 hs hx ht
  obtain ⟨y, q⟩ := k3 b _ ht
  refine hq_getf hf k1 hb g ?_
  have e : hs_fL h x b = y := by unfold hs_fL; rw [q]
  rw [q]
  rw [e] at p
  exact k y (by rw [e]) p.1 p.2
theorem ty_gT {X : pm_X} {d o : Nat} {ini : Bool} {ret : Option FieldType} {code : List pm_I} {pc : Nat} {ls : pm_Ls} {h : pm_H} {Q : pm_H → Option Value → Prop} {r : List Value} {ix len ci b x t : Nat} {v : Value} {fs : List (Nat × Nat)}
    (I : ty_I h) (hf : pm_find code pc = some (.getfield ix, len, ci, b, v)) (hs : hs_sh x = (10 + ci, 0, fs)) (hx : x < 129) (hb : b < pm_cn ci) (ht : fs[b]? = some (4, 0)) (e : hs_fR h x b = t) (k : (t = 1 ∨ t = 12) → hq_W X d o ini ret code (pc + 3, ls, .ref t :: r, h) Q) : hq_W X d o ini ret code (pc, ls, .ref x :: r, h) Q := by
  obtain ⟨k1, k2, k3⟩ := hs_obj I.1 hs hx
  have g := hs_get I.1 hs hx ht
  have q := k3 b _ ht
  refine hq_getf hf k1 hb g ?_
  unfold hs_fR at e
  have q : hs_fV h x b = .ref 1 ∨ hs_fV h x b = .ref 12 := q
  rcases q with q | q
  · rw [q] at e ⊢
    subst e
    exact k (Or.inl rfl)
  · rw [q] at e ⊢
    subst e
    exact k (Or.inr rfl)
theorem ty_gS {X : pm_X} {d o : Nat} {ini : Bool} {ret : Option FieldType} {code : List pm_I} {pc : Nat} {ls : pm_Ls} {h : pm_H} {Q : pm_H → Option Value → Prop} {r : List Value} {ix len ci b x t : Nat} {v : Value} {fs : List (Nat × Nat)}
    (I : ty_I h) (hf : pm_find code pc = some (.getfield ix, len, ci, b, v)) (hs : hs_sh x = (10 + ci, 0, fs)) (hx : x < 129) (hb : b < pm_cn ci) (ht : fs[b]? = some (5, 0)) (e : hs_fR h x b = t) (k : (t = 58 ∨ t = 60) → hq_W X d o ini ret code (pc + 3, ls, .ref t :: r, h) Q) : hq_W X d o ini ret code (pc, ls, .ref x :: r, h) Q := by
  obtain ⟨k1, k2, k3⟩ := hs_obj I.1 hs hx
  have g := hs_get I.1 hs hx ht
  have q := k3 b _ ht
  refine hq_getf hf k1 hb g ?_
  unfold hs_fR at e
  have q : hs_fV h x b = .ref 58 ∨ hs_fV h x b = .ref 60 := q
  rcases q with q | q
  · rw [q] at e ⊢
    subst e
    exact k (Or.inl rfl)
  · rw [q] at e ⊢
    subst e
    exact k (Or.inr rfl)
theorem ty_pI {X : pm_X} {d o : Nat} {ini : Bool} {ret : Option FieldType} {code : List pm_I} {pc : Nat} {ls : pm_Ls} {h : pm_H} {Q : pm_H → Option Value → Prop} {r : List Value} {W : Nat → Nat → Prop} {J : pm_H → Prop} {ix len ci b x : Nat} {v : Value} {fs : List (Nat × Nat)} {u : Int32} {lo hi : Int}
    (H : ty_C W J) (hJ : J h) (hf : pm_find code pc = some (.putfield ix, len, ci, b, v)) (hs : hs_sh x = (10 + ci, 0, fs)) (hx : x < 129) (hb : (decide (b < pm_cn ci) && decide (b < fs.length) && pm_fit (pm_ty ci b) (.int u) && (!pm_fin ci b || (ini && decide (pm_cnm ci = pm_own o)))) = true) (ht : fs[b]? = some (0, 0)) (hw : W x b) (hl : ty_f x b = (lo, hi)) (h0 : lo ≤ u.toInt) (h1 : u.toInt ≤ hi) (k : ∀ h1, h1 = hs_sF h x ci b (.int u) → J h1 → hq_W X d o ini ret code (pc + 3, ls, r, h1) Q) : hq_W X d o ini ret code (pc, ls, .int u :: .ref x :: r, h) Q := by
  have I := H.1 h hJ
  have q : J (hs_sF h x ci b (.int u)) := H.2.1 h x ci b u fs 0 hJ hw hx hs ht (Or.inl rfl) (by rw [hl]; exact h0) (by rw [hl]; exact h1)
  exact hq_pF I.1 hf hs hx hb ht ⟨u, rfl⟩ (fun _ => k _ rfl q)
theorem ty_pB {X : pm_X} {d o : Nat} {ini : Bool} {ret : Option FieldType} {code : List pm_I} {pc : Nat} {ls : pm_Ls} {h : pm_H} {Q : pm_H → Option Value → Prop} {r : List Value} {W : Nat → Nat → Prop} {J : pm_H → Prop} {ix len ci b x : Nat} {v : Value} {fs : List (Nat × Nat)} {u : Int32}
    (H : ty_C W J) (hJ : J h) (hf : pm_find code pc = some (.putfield ix, len, ci, b, v)) (hs : hs_sh x = (10 + ci, 0, fs)) (hx : x < 129) (hb : (decide (b < pm_cn ci) && decide (b < fs.length) && (!pm_fin ci b || (ini && decide (pm_cnm ci = pm_own o)))) = true) (hty : pm_ty ci b = .boolean) (ht : fs[b]? = some (1, 0)) (hw : W x b) (hl : ty_f x b = (-2147483648, 2147483647)) (h0 : 0 ≤ u.toInt) (h1 : u.toInt ≤ 1) (k : ∀ h1, h1 = hs_sF h x ci b (.int u) → J h1 → hq_W X d o ini ret code (pc + 3, ls, r, h1) Q) : hq_W X d o ini ret code (pc, ls, .int u :: .ref x :: r, h) Q := by
  have I := H.1 h hJ
  have u1 : u = 0 ∨ u = 1 := nm_01 (by omega)
  have q : J (hs_sF h x ci b (.int u)) := H.2.1 h x ci b u fs 1 hJ hw hx hs ht (Or.inr ⟨rfl, u1⟩) (by rw [hl]; exact nm_lo u) (by rw [hl]; exact nm_hi u)
  refine hq_pF I.1 hf hs hx ?_ ht ?_ (fun _ => k _ rfl q)
  · rw [hty]
    have f : pm_fit .boolean (.int u) = true := by rcases u1 with e | e <;> rw [e] <;> rfl
    rw [f, Bool.and_true]
    exact hb
  · show Value.int u = .int 0 ∨ Value.int u = .int 1
    rcases u1 with e | e
    · exact Or.inl (by rw [e])
    · exact Or.inr (by rw [e])
theorem ty_pL {X : pm_X} {d o : Nat} {ini : Bool} {ret : Option FieldType} {code : List pm_I} {pc : Nat} {ls : pm_Ls} {h : pm_H} {Q : pm_H → Option Value → Prop} {r : List Value} {W : Nat → Nat → Prop} {J : pm_H → Prop} {ix len ci b x : Nat} {v : Value} {fs : List (Nat × Nat)} {u : Int64} {lo hi : Int}
    (H : ty_C W J) (hJ : J h) (hf : pm_find code pc = some (.putfield ix, len, ci, b, v)) (hs : hs_sh x = (10 + ci, 0, fs)) (hx : x < 129) (hb : (decide (b < pm_cn ci) && decide (b < fs.length) && pm_fit (pm_ty ci b) (.long u) && (!pm_fin ci b || (ini && decide (pm_cnm ci = pm_own o)))) = true) (ht : fs[b]? = some (2, 0)) (hw : W x b) (hl : ty_l x b = (lo, hi)) (h0 : lo ≤ u.toInt) (h1 : u.toInt ≤ hi) (k : ∀ h1, h1 = hs_sF h x ci b (.long u) → J h1 → hq_W X d o ini ret code (pc + 3, ls, r, h1) Q) : hq_W X d o ini ret code (pc, ls, .long u :: .ref x :: r, h) Q := by
  have I := H.1 h hJ
  have q : J (hs_sF h x ci b (.long u)) := H.2.2.1 h x ci b u fs hJ hw hx hs ht (by rw [hl]; exact h0) (by rw [hl]; exact h1)
  exact hq_pF I.1 hf hs hx hb ht ⟨u, rfl⟩ (fun _ => k _ rfl q)
theorem ty_aL {X : pm_X} {d o : Nat} {ini : Bool} {ret : Option FieldType} {code : List pm_I} {pc : Nat} {ls : pm_Ls} {h : pm_H} {Q : pm_H → Option Value → Prop} {r : List Value} {len a b x n : Nat} {v : Value} {j : Int32} {lo hi : Int}
    (I : ty_I h) (hf : pm_find code pc = some (.iaload, len, a, b, v)) (hs : hs_sh x = (0, n, [])) (hx : x < 129) (h0 : 0 ≤ j.toInt) (h1 : j.toInt < n) (hl : ∀ i : Nat, (i : Int) = j.toInt → lo ≤ (ty_a x i).1 ∧ (ty_a x i).2 ≤ hi) (k : ∀ z : Int32, z.toInt = (hs_aI h x j.toInt.toNat).toInt → lo ≤ z.toInt → z.toInt ≤ hi → hq_W X d o ini ret code (pc + 1, ls, .int z :: r, h) Q) : hq_W X d o ini ret code (pc, ls, .int j :: .ref x :: r, h) Q := by
  have q := I.2.2.2.1 x j.toInt.toNat hx (by rw [hs]; show _ < n; omega)
  have p := hl j.toInt.toNat (by omega)
  exact hq_aL I.1 hf hs hx h0 h1 (k _ rfl (Int.le_trans p.1 q.1) (Int.le_trans q.2 p.2))
theorem ty_aLx {X : pm_X} {d o : Nat} {ini : Bool} {ret : Option FieldType} {code : List pm_I} {pc : Nat} {ls : pm_Ls} {h : pm_H} {Q : pm_H → Option Value → Prop} {r : List Value} {len a b x n : Nat} {v : Value} {j : Int32}
    (I : ty_I h) (hf : pm_find code pc = some (.iaload, len, a, b, v)) (hs : hs_sh x = (0, n, [])) (hx : x < 129) (h0 : 0 ≤ j.toInt) (h1 : j.toInt < n) (k : ∀ z : Int32, z.toInt = (hs_aI h x j.toInt.toNat).toInt → (ty_a x j.toInt.toNat).1 ≤ z.toInt → z.toInt ≤ (ty_a x j.toInt.toNat).2 → hq_W X d o ini ret code (pc + 1, ls, .int z :: r, h) Q) : hq_W X d o ini ret code (pc, ls, .int j :: .ref x :: r, h) Q := by
  have q := I.2.2.2.1 x j.toInt.toNat hx (by rw [hs]; show _ < n; omega)
  exact hq_aL I.1 hf hs hx h0 h1 (k _ rfl q.1 q.2)
theorem ty_aS {X : pm_X} {d o : Nat} {ini : Bool} {ret : Option FieldType} {code : List pm_I} {pc : Nat} {ls : pm_Ls} {h : pm_H} {Q : pm_H → Option Value → Prop} {r : List Value} {W : Nat → Nat → Prop} {J : pm_H → Prop} {len a b x n : Nat} {v : Value} {j u : Int32} {lo hi : Int}
    (H : ty_C W J) (hJ : J h) (hf : pm_find code pc = some (.iastore, len, a, b, v)) (hs : hs_sh x = (0, n, [])) (hx : x < 129) (h0 : 0 ≤ j.toInt) (h1 : j.toInt < n) (hw : ∀ i : Nat, (i : Int) = j.toInt → W x i) (hl : ∀ i : Nat, (i : Int) = j.toInt → (ty_a x i).1 ≤ lo ∧ hi ≤ (ty_a x i).2) (h2 : lo ≤ u.toInt) (h3 : u.toInt ≤ hi) (h5 : x = 99 → j.toInt = 5 → W 202 0 → u.toInt ≤ 999) (k : ∀ h1, h1 = hs_sA h x 0 n j.toInt.toNat u → J h1 → hq_W X d o ini ret code (pc + 1, ls, r, h1) Q) : hq_W X d o ini ret code (pc, ls, .int u :: .int j :: .ref x :: r, h) Q := by
  have I := H.1 h hJ
  have p := hl j.toInt.toNat (by omega)
  have q : J (hs_sA h x 0 n j.toInt.toNat u) := H.2.2.2.1 h x n j.toInt.toNat 0 u hJ (hw _ (by omega)) hx hs (Or.inl rfl) (by omega) (Int.le_trans p.1 h2) (Int.le_trans h3 p.2) (fun e1 e2 => h5 e1 (by omega))
  exact hq_aS I.1 hf hs hx h0 h1 (fun _ => k _ rfl q)
theorem ty_bL {X : pm_X} {d o : Nat} {ini : Bool} {ret : Option FieldType} {code : List pm_I} {pc : Nat} {ls : pm_Ls} {h : pm_H} {Q : pm_H → Option Value → Prop} {r : List Value} {len a b x n : Nat} {v : Value} {j : Int32}
    (I : ty_I h) (hf : pm_find code pc = some (.baload, len, a, b, v)) (hs : hs_sh x = (2, n, [])) (hx : x < 129) (h0 : 0 ≤ j.toInt) (h1 : j.toInt < n) (k : ∀ z : Int32, -2147483648 ≤ z.toInt → z.toInt ≤ 2147483647 → hq_W X d o ini ret code (pc + 1, ls, .int z :: r, h) Q) : hq_W X d o ini ret code (pc, ls, .int j :: .ref x :: r, h) Q := by
  exact hq_bald hf (hs_barr I.1 hs hx) (hs_in h0 h1) (k _ (nm_lo _) (nm_hi _))
theorem ty_bS {X : pm_X} {d o : Nat} {ini : Bool} {ret : Option FieldType} {code : List pm_I} {pc : Nat} {ls : pm_Ls} {h : pm_H} {Q : pm_H → Option Value → Prop} {r : List Value} {W : Nat → Nat → Prop} {J : pm_H → Prop} {len a b x n : Nat} {v : Value} {j u : Int32}
    (H : ty_C W J) (hJ : J h) (hf : pm_find code pc = some (.bastore, len, a, b, v)) (hs : hs_sh x = (2, n, [])) (hx : x < 129) (h0 : 0 ≤ j.toInt) (h1 : j.toInt < n) (hw : ∀ i : Nat, (i : Int) = j.toInt → W x i) (hl : ∀ i : Nat, ty_a x i = (-2147483648, 2147483647)) (h5 : x ≠ 99) (k : ∀ h1, h1 = hs_sA h x 2 n j.toInt.toNat (u &&& 1) → J h1 → hq_W X d o ini ret code (pc + 1, ls, r, h1) Q) : hq_W X d o ini ret code (pc, ls, .int u :: .int j :: .ref x :: r, h) Q := by
  have I := H.1 h hJ
  have q : J (hs_sA h x 2 n j.toInt.toNat (u &&& 1)) := H.2.2.2.1 h x n j.toInt.toNat 2 _ hJ (hw _ (by omega)) hx hs (Or.inr rfl) (by omega) (by rw [hl]; exact nm_lo _) (by rw [hl]; exact nm_hi _) (fun e => absurd e h5)
  exact hq_bast hf (hs_barr I.1 hs hx) (hs_in h0 h1) (k _ rfl q)
theorem ty_lL {X : pm_X} {d o : Nat} {ini : Bool} {ret : Option FieldType} {code : List pm_I} {pc : Nat} {ls : pm_Ls} {h : pm_H} {Q : pm_H → Option Value → Prop} {r : List Value} {len a b x n : Nat} {v : Value} {j : Int32}
    (I : ty_I h) (hf : pm_find code pc = some (.laload, len, a, b, v)) (hs : hs_sh x = (1, n, [])) (hx : x < 129) (h0 : 0 ≤ j.toInt) (h1 : j.toInt < n) (k : ∀ z : Int64, z.toInt = (hs_aL h x j.toInt.toNat).toInt → -9223372036854775808 ≤ z.toInt → z.toInt ≤ 9223372036854775807 → hq_W X d o ini ret code (pc + 1, ls, .long z :: r, h) Q) : hq_W X d o ini ret code (pc, ls, .int j :: .ref x :: r, h) Q := by
  exact hq_lald hf (hs_larr I.1 hs hx) (hs_in h0 h1) (k _ rfl (nm_llo _) (nm_lhi _))
theorem ty_lS {X : pm_X} {d o : Nat} {ini : Bool} {ret : Option FieldType} {code : List pm_I} {pc : Nat} {ls : pm_Ls} {h : pm_H} {Q : pm_H → Option Value → Prop} {r : List Value} {W : Nat → Nat → Prop} {J : pm_H → Prop} {len a b x n : Nat} {v : Value} {j : Int32} {u : Int64}
    (H : ty_C W J) (hJ : J h) (hf : pm_find code pc = some (.lastore, len, a, b, v)) (hs : hs_sh x = (1, n, [])) (hx : x < 129) (h0 : 0 ≤ j.toInt) (h1 : j.toInt < n) (hw : ∀ i : Nat, (i : Int) = j.toInt → W x i) (k : ∀ h1, h1 = hs_sL h x n j.toInt.toNat u → J h1 → hq_W X d o ini ret code (pc + 1, ls, r, h1) Q) : hq_W X d o ini ret code (pc, ls, .long u :: .int j :: .ref x :: r, h) Q := by
  have I := H.1 h hJ
  have q : J (hs_sL h x n j.toInt.toNat u) := H.2.2.2.2.1 h x n j.toInt.toNat u hJ (hw _ (by omega)) hx hs (by omega)
  exact hq_last hf (hs_larr I.1 hs hx) (hs_in h0 h1) (k _ rfl q)
theorem ty_rB {X : pm_X} {d o : Nat} {ini : Bool} {ret : Option FieldType} {code : List pm_I} {pc : Nat} {ls : pm_Ls} {h : pm_H} {Q : pm_H → Option Value → Prop} {len a b : Nat} {v : Value} {x : Int32}
    (hr : ret = some .boolean) (hf : pm_find code pc = some (.ireturn, len, a, b, v)) (h0 : 0 ≤ x.toInt) (h1 : x.toInt ≤ 1) (k : Q h (some (.int x))) : hq_W X d o ini ret code (pc, ls, [.int x], h) Q := by
  refine hq_W.ret hf ?_ rfl k
  have u1 : x = 0 ∨ x = 1 := nm_01 (by omega)
  subst hr
  rcases u1 with e | e <;> (subst e; rfl)
theorem ty_call {X : pm_X} {d o : Nat} {ini : Bool} {ret : Option FieldType} {code : List pm_I} {pc : Nat} {ls : pm_Ls} {h : pm_H} {Q : pm_H → Option Value → Prop} {W : Nat → Nat → Prop} {J : pm_H → Prop} {W' : Nat → Nat → Prop} {P : pm_H → Option Value → Prop} {st : List Value} {i : Instr} {len kind mid : Nat} {v : Value} {q : pm_M} (ik : Nat)
    (H : ty_C W J) (hJ : J h) (hf : pm_find code pc = some (i, len, kind, mid, v)) (hi : ∀ call, pm_step X call o ini ret pc ls st h i len kind mid v = pm_inv X call ik pc ls st h kind mid) (hk : (kind == 4 || kind == 5 || kind == 6) = false) (hm : pm_mtL[mid]? = some q) (hik : (bif kind == 0 || kind == 7 then ik == 0 else bif kind == 2 then ik == 2 else ik == 1) = true) (hp : hq_pre h st kind q.2.2.2.2.2.1 q.1.cls = true) (hW : ∀ a k, W' a k → W a k) (h5 : W' 99 5 → W 202 0 → W' 202 0) (c : ty_M X W' d mid (st.take q.2.2.2.2.2.1).reverse h P) (k : ∀ h1 v, J h1 → h1.1 = h.1 → h1.2.1 = h.2.1 → (∀ a, 129 ≤ a → h1.2.2 a = h.2.2 a) → P h1 v → hq_W X d o ini ret code (pc + 3, ls, (match v with | some v => v :: st.drop q.2.2.2.2.2.1 | none => st.drop q.2.2.2.2.2.1), h1) Q) : hq_W X d o ini ret code (pc, ls, st, h) Q := by
  refine hq_inv ik hf hi hk hm hik hp ((c (fun h' => J h' ∧ h'.1 = h.1 ∧ h'.2.1 = h.2.1 ∧ ∀ a, 129 ≤ a → h'.2.2 a = h.2.2 a) ((H.mono hW h5).sz _ _ _) ⟨hJ, rfl, rfl, fun _ _ => rfl⟩).mono (Nat.le_refl _) (fun h' v p => ?_))
  obtain ⟨⟨j, e1, e2, e3⟩, p⟩ := p
  exact ⟨by omega, by omega, k h' v j e1 e2 e3 p⟩
theorem ty_callj {X : pm_X} {d o : Nat} {ini : Bool} {ret : Option FieldType} {code : List pm_I} {pc : Nat} {ls : pm_Ls} {h : pm_H} {Q : pm_H → Option Value → Prop} {W : Nat → Nat → Prop} {J : pm_H → Prop} {W' : Nat → Nat → Prop} {P : pm_H → Option Value → Prop} {st : List Value} {i : Instr} {len kind mid : Nat} {v : Value} {q : pm_M} (ik : Nat)
    (H : ty_C W J) (hJ : J h) (hf : pm_find code pc = some (i, len, kind, mid, v)) (hi : ∀ call, pm_step X call o ini ret pc ls st h i len kind mid v = pm_inv X call ik pc ls st h kind mid) (hk : (kind == 4 || kind == 5 || kind == 6) = false) (hm : pm_mtL[mid]? = some q) (hik : (bif kind == 0 || kind == 7 then ik == 0 else bif kind == 2 then ik == 2 else ik == 1) = true) (hp : hq_pre h st kind q.2.2.2.2.2.1 q.1.cls = true) (hW : ∀ a k, W' a k → W a k) (h5 : W' 99 5 → W 202 0 → W' 202 0) (c : ty_M X W' d mid (st.take q.2.2.2.2.2.1).reverse h P) (k : ∀ h1 v, J h1 → P h1 v → hq_W X d o ini ret code (pc + 3, ls, (match v with | some v => v :: st.drop q.2.2.2.2.2.1 | none => st.drop q.2.2.2.2.2.1), h1) Q) : hq_W X d o ini ret code (pc, ls, st, h) Q := by
  exact ty_call ik H hJ hf hi hk hm hik hp hW h5 c (fun h1 v j _ _ _ p => k h1 v j p)
theorem ty_callp {X : pm_X} {d o : Nat} {ini : Bool} {ret : Option FieldType} {code : List pm_I} {pc : Nat} {ls : pm_Ls} {h : pm_H} {Q : pm_H → Option Value → Prop} {P : pm_H → Option Value → Prop} {st : List Value} {i : Instr} {len kind mid : Nat} {v : Value} {q : pm_M} (ik : Nat)
    (I : ty_I h) (hf : pm_find code pc = some (i, len, kind, mid, v)) (hi : ∀ call, pm_step X call o ini ret pc ls st h i len kind mid v = pm_inv X call ik pc ls st h kind mid) (hk : (kind == 4 || kind == 5 || kind == 6) = false) (hm : pm_mtL[mid]? = some q) (hik : (bif kind == 0 || kind == 7 then ik == 0 else bif kind == 2 then ik == 2 else ik == 1) = true) (hp : hq_pre h st kind q.2.2.2.2.2.1 q.1.cls = true) (c : ty_M X ty_W0 d mid (st.take q.2.2.2.2.2.1).reverse h P) (k : ∀ v, P h v → hq_W X d o ini ret code (pc + 3, ls, (match v with | some v => v :: st.drop q.2.2.2.2.2.1 | none => st.drop q.2.2.2.2.2.1), h) Q) : hq_W X d o ini ret code (pc, ls, st, h) Q := by
  refine hq_inv ik hf hi hk hm hik hp ((c.pure I).mono (Nat.le_refl _) (fun h' v p => ?_))
  obtain ⟨e, p⟩ := p
  subst e
  exact ⟨Nat.le_refl _, Nat.le_refl _, k v p⟩
theorem ty_ts {X : pm_X} {d o : Nat} {ini : Bool} {ret : Option FieldType} {code : List pm_I} {pc : Nat} {ls : pm_Ls} {h : pm_H} {Q : pm_H → Option Value → Prop} {r : List Value} {len a b : Nat} {v : Value} {x : Int32} {dflt lo hi off n : Int} {offs : Array Int}
    (hf : pm_find code pc = some (.tableswitch dflt lo hi offs, len, a, b, v)) (e : x.toInt = n) (hl : (decide (n < lo) || decide (hi < n)) = false) (ho : offs.toList[(n - lo).toNat]? = some off) (h0 : 0 ≤ (pc : Int) + off) (k : hq_W X d o ini ret code (((pc : Int) + off).toNat, ls, r, h) Q) : hq_W X d o ini ret code (pc, ls, .int x :: r, h) Q := by
  refine hq_W.step 0 hf (s' := (((pc : Int) + off).toNat, ls, r, h)) ?_ (Nat.le_refl _) (Nat.le_refl _) k
  show pm_tsw pc ls (.int x :: r) h dflt lo hi offs = _
  unfold pm_tsw
  dsimp only
  rw [e, hl]
  dsimp only [cond]
  rw [ho]
  dsimp only
  rw [decide_eq_true h0]
  rfl
theorem ty_td {X : pm_X} {d o : Nat} {ini : Bool} {ret : Option FieldType} {code : List pm_I} {pc : Nat} {ls : pm_Ls} {h : pm_H} {Q : pm_H → Option Value → Prop} {r : List Value} {len a b : Nat} {v : Value} {x : Int32} {dflt lo hi : Int} {offs : Array Int}
    (hf : pm_find code pc = some (.tableswitch dflt lo hi offs, len, a, b, v)) (e : x.toInt < lo ∨ hi < x.toInt) (h0 : 0 ≤ (pc : Int) + dflt) (k : hq_W X d o ini ret code (((pc : Int) + dflt).toNat, ls, r, h) Q) : hq_W X d o ini ret code (pc, ls, .int x :: r, h) Q := by
  refine hq_W.step 0 hf (s' := (((pc : Int) + dflt).toNat, ls, r, h)) ?_ (Nat.le_refl _) (Nat.le_refl _) k
  show pm_tsw pc ls (.int x :: r) h dflt lo hi offs = _
  unfold pm_tsw
  dsimp only
  have e' : (decide (x.toInt < lo) || decide (hi < x.toInt)) = true := by
    rcases e with e | e
    · rw [decide_eq_true e]; rfl
    · rw [decide_eq_true e, Bool.or_true]
  rw [e']
  dsimp only [cond]
  rw [decide_eq_true h0]
  rfl
theorem ty_trs {t : Nat} (ht : ty_tr t) : hs_sh t = (10 + 8, 0, [(0, 0), (3, t + 1), (3, t + 2), (0, 0), (3, t + 3), (3, t + 4), (3, t + 5), (3, t + 6), (0, 0), (0, 0), (0, 0), (3, t + 7), (3, t + 8), (3, t + 9), (0, 0), (3, t + 10), (0, 0)]) := by
  rcases ht with rfl | rfl | rfl | rfl | rfl <;> rfl
theorem ty_trs1 {t : Nat} (ht : ty_tr t) : hs_sh (t + 1) = (0, 8, []) := by
  rcases ht with rfl | rfl | rfl | rfl | rfl <;> rfl
theorem ty_trs2 {t : Nat} (ht : ty_tr t) : hs_sh (t + 2) = (0, 8, []) := by
  rcases ht with rfl | rfl | rfl | rfl | rfl <;> rfl
theorem ty_trs3 {t : Nat} (ht : ty_tr t) : hs_sh (t + 3) = (0, 8, []) := by
  rcases ht with rfl | rfl | rfl | rfl | rfl <;> rfl
theorem ty_trs4 {t : Nat} (ht : ty_tr t) : hs_sh (t + 4) = (0, 8, []) := by
  rcases ht with rfl | rfl | rfl | rfl | rfl <;> rfl
theorem ty_trs5 {t : Nat} (ht : ty_tr t) : hs_sh (t + 5) = (0, 8, []) := by
  rcases ht with rfl | rfl | rfl | rfl | rfl <;> rfl
theorem ty_trs6 {t : Nat} (ht : ty_tr t) : hs_sh (t + 6) = (0, 36, []) := by
  rcases ht with rfl | rfl | rfl | rfl | rfl <;> rfl
theorem ty_trs7 {t : Nat} (ht : ty_tr t) : hs_sh (t + 7) = (0, 6, []) := by
  rcases ht with rfl | rfl | rfl | rfl | rfl <;> rfl
theorem ty_trs8 {t : Nat} (ht : ty_tr t) : hs_sh (t + 8) = (0, 6, []) := by
  rcases ht with rfl | rfl | rfl | rfl | rfl <;> rfl
theorem ty_trs9 {t : Nat} (ht : ty_tr t) : hs_sh (t + 9) = (0, 3, []) := by
  rcases ht with rfl | rfl | rfl | rfl | rfl <;> rfl
theorem ty_trs10 {t : Nat} (ht : ty_tr t) : hs_sh (t + 10) = (3, 6, []) := by
  rcases ht with rfl | rfl | rfl | rfl | rfl <;> rfl
theorem ty_tra1 {t : Nat} (ht : ty_tr t) : ∀ j, ty_a (t + 1) j = ty_F := by
  rcases ht with rfl | rfl | rfl | rfl | rfl <;> (intro _; rfl)
theorem ty_tra2 {t : Nat} (ht : ty_tr t) : ∀ j, ty_a (t + 2) j = ty_F := by
  rcases ht with rfl | rfl | rfl | rfl | rfl <;> (intro _; rfl)
theorem ty_tra3 {t : Nat} (ht : ty_tr t) : ∀ j, ty_a (t + 3) j = ty_F := by
  rcases ht with rfl | rfl | rfl | rfl | rfl <;> (intro _; rfl)
theorem ty_tra4 {t : Nat} (ht : ty_tr t) : ∀ j, ty_a (t + 4) j = ty_F := by
  rcases ht with rfl | rfl | rfl | rfl | rfl <;> (intro _; rfl)
theorem ty_tra5 {t : Nat} (ht : ty_tr t) : ∀ j, ty_a (t + 5) j = ty_F := by
  rcases ht with rfl | rfl | rfl | rfl | rfl <;> (intro _; rfl)
theorem ty_tra6 {t : Nat} (ht : ty_tr t) : ∀ j, ty_a (t + 6) j = ty_F := by
  rcases ht with rfl | rfl | rfl | rfl | rfl <;> (intro _; rfl)
theorem ty_tra7 {t : Nat} (ht : ty_tr t) : ∀ j, ty_a (t + 7) j = (0, 7) := by
  rcases ht with rfl | rfl | rfl | rfl | rfl <;> (intro _; rfl)
theorem ty_tra8 {t : Nat} (ht : ty_tr t) : ∀ j, ty_a (t + 8) j = ty_F := by
  rcases ht with rfl | rfl | rfl | rfl | rfl <;> (intro _; rfl)
theorem ty_tra9 {t : Nat} (ht : ty_tr t) : ∀ j, ty_a (t + 9) j = ty_F := by
  rcases ht with rfl | rfl | rfl | rfl | rfl <;> (intro _; rfl)
theorem ty_trf {t : Nat} (ht : ty_tr t) : ∀ k, ty_f t k = ty_tk k := by
  rcases ht with rfl | rfl | rfl | rfl | rfl <;> (intro _; rfl)
theorem ty_rus {t : Nat} (ht : ty_ru t) : hs_sh t = (10 + 4, 0, [(3, t + 1), (3, t + 3)]) := by
  rcases ht with rfl | rfl <;> rfl
theorem ty_rus1 {t : Nat} (ht : ty_ru t) : hs_sh (t + 1) = (10 + 6, 0, [(3, t + 2)]) := by
  rcases ht with rfl | rfl <;> rfl
theorem ty_rus2 {t : Nat} (ht : ty_ru t) : hs_sh (t + 2) = (1, 51, []) := by
  rcases ht with rfl | rfl <;> rfl
theorem ty_rus3 {t : Nat} (ht : ty_ru t) : hs_sh (t + 3) = (0, 10, []) := by
  rcases ht with rfl | rfl <;> rfl
theorem ty_rua3 {t : Nat} (ht : ty_ru t) : ∀ j, ty_a (t + 3) j = ty_F := by
  rcases ht with rfl | rfl <;> (intro _; rfl)
theorem ty_sms {t : Nat} (ht : ty_sm t) : hs_sh t = (10 + 6, 0, [(3, t + 1)]) := by
  rcases ht with rfl | rfl | rfl <;> rfl
theorem ty_sms1 {t : Nat} (ht : ty_sm t) : hs_sh (t + 1) = (1, 51, []) := by
  rcases ht with rfl | rfl | rfl <;> rfl
theorem ty_sps {t : Nat} (ht : ty_sp t) : hs_sh t = (10 + 5, 0, [(3, t + 1), (0, 0), (0, 0)]) := by
  rcases ht with rfl | rfl <;> rfl
theorem ty_sps1 {t : Nat} (ht : ty_sp t) : hs_sh (t + 1) = (0, 448, []) := by
  rcases ht with rfl | rfl <;> rfl
theorem ty_spf1 {t : Nat} (ht : ty_sp t) : ty_f t 1 = (0, 15) := by
  rcases ht with rfl | rfl <;> rfl
theorem ty_spf2 {t : Nat} (ht : ty_sp t) : ty_f t 2 = (0, 16) := by
  rcases ht with rfl | rfl <;> rfl
theorem ty_spa1 {t : Nat} (ht : ty_sp t) : ∀ j, ty_a (t + 1) j = bif j % 28 == 24 then (0, 5) else ty_F := by
  rcases ht with rfl | rfl <;> (intro _; rfl)
theorem ty_trl {t : Nat} (ht : ty_tr t) : 1 ≤ t ∧ t + 10 < 57 := by
  rcases ht with rfl | rfl | rfl | rfl | rfl <;> decide
theorem ty_rul {t : Nat} (ht : ty_ru t) : 72 ≤ t ∧ t + 3 < 81 := by
  rcases ht with rfl | rfl <;> decide
theorem ty_sml {t : Nat} (ht : ty_sm t) : 73 ≤ t ∧ t + 1 < 83 := by
  rcases ht with rfl | rfl | rfl <;> decide
theorem ty_spl {t : Nat} (ht : ty_sp t) : 58 ≤ t ∧ t + 1 < 62 := by
  rcases ht with rfl | rfl <;> decide
theorem ty_w0 {i : Nat} (h0 : 0 ≤ i) (h1 : i < 2) : ty_a 99 i = (0, 8) := by
  have e : i = 0 ∨ i = 1 := by omega
  rcases e with rfl | rfl <;> rfl
theorem ty_w2 {i : Nat} (h0 : 2 ≤ i) (h1 : i < 4) : ty_a 99 i = (0, 6) := by
  have e : i = 2 ∨ i = 3 := by omega
  rcases e with rfl | rfl <;> rfl
theorem ty_w4 {i : Nat} (h0 : 4 ≤ i) (h1 : i < 5) : ty_a 99 i = (-1, 5) := by
  have e : i = 4 := by omega
  subst e
  rfl
theorem ty_w5 {i : Nat} (h0 : 5 ≤ i) (h1 : i < 6) : ty_a 99 i = (0, 1020) := by
  have e : i = 5 := by omega
  subst e
  rfl
theorem ty_w8 {i : Nat} (h0 : 8 ≤ i) (h1 : i < 9) : ty_a 99 i = (0, 5) := by
  have e : i = 8 := by omega
  subst e
  rfl
theorem ty_w9 {i : Nat} (h0 : 9 ≤ i) (h1 : i < 10) : ty_a 99 i = (0, 9999) := by
  have e : i = 9 := by omega
  subst e
  rfl
theorem ty_w10 {i : Nat} (h0 : 10 ≤ i) (h1 : i < 18) : ty_a 99 i = (0, 9) := by
  have e : i = 10 ∨ i = 11 ∨ i = 12 ∨ i = 13 ∨ i = 14 ∨ i = 15 ∨ i = 16 ∨ i = 17 := by omega
  rcases e with rfl | rfl | rfl | rfl | rfl | rfl | rfl | rfl <;> rfl
theorem ty_w26 {i : Nat} (h0 : 26 ≤ i) (h1 : i < 34) : ty_a 99 i = (-1, 7) := by
  have e : i = 26 ∨ i = 27 ∨ i = 28 ∨ i = 29 ∨ i = 30 ∨ i = 31 ∨ i = 32 ∨ i = 33 := by omega
  rcases e with rfl | rfl | rfl | rfl | rfl | rfl | rfl | rfl <;> rfl
theorem ty_w34 {i : Nat} (h0 : 34 ≤ i) (h1 : i < 42) : ty_a 99 i = (0, 20) := by
  have e : i = 34 ∨ i = 35 ∨ i = 36 ∨ i = 37 ∨ i = 38 ∨ i = 39 ∨ i = 40 ∨ i = 41 := by omega
  rcases e with rfl | rfl | rfl | rfl | rfl | rfl | rfl | rfl <;> rfl
theorem ty_w50 {i : Nat} (h0 : 50 ≤ i) (h1 : i < 86) : ty_a 99 i = (-1, 9) := by
  have e : i = 50 ∨ i = 51 ∨ i = 52 ∨ i = 53 ∨ i = 54 ∨ i = 55 ∨ i = 56 ∨ i = 57 ∨ i = 58 ∨ i = 59 ∨ i = 60 ∨ i = 61 ∨ i = 62 ∨ i = 63 ∨ i = 64 ∨ i = 65 ∨ i = 66 ∨ i = 67 ∨ i = 68 ∨ i = 69 ∨ i = 70 ∨ i = 71 ∨ i = 72 ∨ i = 73 ∨ i = 74 ∨ i = 75 ∨ i = 76 ∨ i = 77 ∨ i = 78 ∨ i = 79 ∨ i = 80 ∨ i = 81 ∨ i = 82 ∨ i = 83 ∨ i = 84 ∨ i = 85 := by omega
  rcases e with rfl | rfl | rfl | rfl | rfl | rfl | rfl | rfl | rfl | rfl | rfl | rfl | rfl | rfl | rfl | rfl | rfl | rfl | rfl | rfl | rfl | rfl | rfl | rfl | rfl | rfl | rfl | rfl | rfl | rfl | rfl | rfl | rfl | rfl | rfl | rfl <;> rfl
theorem ty_rbF (i : Nat) : -2147483648 ≤ (ty_rb i).1 ∧ (ty_rb i).2 ≤ 2147483647 := by
  unfold ty_rb
  repeat' (first | (rw [cond_eq_ite]; split) | (simp only []; done) | decide)
theorem ty_w86 {i : Nat} (h0 : 86 ≤ i) (h1 : i < 98) (h2 : i % 2 = 0) : ty_a 99 i = (0, 7) := by
  have e : i = 86 ∨ i = 88 ∨ i = 90 ∨ i = 92 ∨ i = 94 ∨ i = 96 := by omega
  rcases e with rfl | rfl | rfl | rfl | rfl | rfl <;> rfl
theorem ty_w6 {i : Nat} (h0 : 6 ≤ i) (h1 : i < 8) : ty_a 99 i = ty_F := by
  have e : i = 6 ∨ i = 7 := by omega
  rcases e with rfl | rfl <;> rfl
theorem ty_w18 {i : Nat} (h0 : 18 ≤ i) (h1 : i < 26) : ty_a 99 i = ty_F := by
  have e : i = 18 ∨ i = 19 ∨ i = 20 ∨ i = 21 ∨ i = 22 ∨ i = 23 ∨ i = 24 ∨ i = 25 := by omega
  rcases e with rfl | rfl | rfl | rfl | rfl | rfl | rfl | rfl <;> rfl
theorem ty_w42 {i : Nat} (h0 : 42 ≤ i) (h1 : i < 50) : ty_a 99 i = ty_F := by
  have e : i = 42 ∨ i = 43 ∨ i = 44 ∨ i = 45 ∨ i = 46 ∨ i = 47 ∨ i = 48 ∨ i = 49 := by omega
  rcases e with rfl | rfl | rfl | rfl | rfl | rfl | rfl | rfl <;> rfl
theorem ty_w87 {i : Nat} (h0 : 86 ≤ i) (h1 : i < 98) (h2 : i % 2 = 1) : ty_a 99 i = ty_F := by
  have e : i = 87 ∨ i = 89 ∨ i = 91 ∨ i = 93 ∨ i = 95 ∨ i = 97 := by omega
  rcases e with rfl | rfl | rfl | rfl | rfl | rfl <;> rfl
/-- between, from an equation of the table -/
theorem ty_le {p : Int × Int} {lo hi : Int} (e : p = (lo, hi)) : lo ≤ p.1 ∧ p.2 ≤ hi := by
  subst e
  exact ⟨Int.le_refl _, Int.le_refl _⟩
theorem ty_eg {p : Int × Int} {lo hi : Int} (e : p = (lo, hi)) : p.1 ≤ lo ∧ hi ≤ p.2 := by
  subst e
  exact ⟨Int.le_refl _, Int.le_refl _⟩
theorem ty_pe {p q : Int × Int} (e : p = q) : p.1 ≤ q.1 ∧ q.2 ≤ p.2 := by
  subst e
  exact ⟨Int.le_refl _, Int.le_refl _⟩
/-- what is kept is in the row's bounds -/
theorem ty_sr (n : Nat) : (ty_rb n).1 ≤ (ty_sb n).1 ∧ (ty_sb n).2 ≤ (ty_rb n).2 := by
  unfold ty_sb
  by_cases e : n = 5
  · subst e
    decide
  · rw [show (n == 5) = false from beq_false_of_ne e]
    exact ⟨Int.le_refl _, Int.le_refl _⟩
theorem ty_rs {n : Nat} (e : n ≠ 5) : ty_sb n = ty_rb n := by
  unfold ty_sb
  rw [show (n == 5) = false from beq_false_of_ne e]
  rfl
/-- results -/
def ty_pv (_ : pm_H) (v : Option Value) : Prop := v = none
def ty_pi (lo hi : Int) (_ : pm_H) (v : Option Value) : Prop := ∃ z : Int32, v = some (.int z) ∧ lo ≤ z.toInt ∧ z.toInt ≤ hi
def ty_pl (_ : pm_H) (v : Option Value) : Prop := ∃ z : Int64, v = some (.long z)
/-- a boolean that, if it is true, says p -/
def ty_pb (p : Prop) (_ : pm_H) (v : Option Value) : Prop := ∃ z : Int32, v = some (.int z) ∧ 0 ≤ z.toInt ∧ z.toInt ≤ 1 ∧ (z.toInt ≠ 0 → p)
end TYP
