/-! FURTHER RULES; the sets of cells that methods write; constants. -/
section MOR
theorem nm_addc {x : Int32} {n : Int} (e : (Int32.ofInt n).toInt = n) (h0 : -2147483648 ≤ x.toInt + n) (h1 : x.toInt + n ≤ 2147483647) : (x + Int32.ofInt n).toInt = x.toInt + n := by
  rw [nm_add (by omega) (by omega), e]
theorem ty_stp {ls : pm_Ls} {j : Nat} {v : Value} (hj : pm_two (ls.getD j none) = false) : pm_st1 ls (j + 1) v = ls.set (j + 1) (some v) := by
  show ((bif pm_two (ls.getD j none) then ls.set j none else ls)).set (j + 1) (some v) = _
  rw [hj]
  rfl
theorem ty_fI_ne {h : pm_H} {a b k : Nat} {c : pm_C} (hb : b ≠ a) : hs_fI (pm_hset h a c) b k = hs_fI h b k := hs_fI_ne hb
theorem ty_fR_ne {h : pm_H} {a b k : Nat} {c : pm_C} (hb : b ≠ a) : hs_fR (pm_hset h a c) b k = hs_fR h b k := by
  unfold hs_fR
  rw [hs_fV_ne hb]
theorem ty_fL_ne {h : pm_H} {a b k : Nat} {c : pm_C} (hb : b ≠ a) : hs_fL (pm_hset h a c) b k = hs_fL h b k := hs_fL_ne hb
theorem ty_aI_ne {h : pm_H} {a b j : Nat} {c : pm_C} (hb : b ≠ a) : hs_aI (pm_hset h a c) b j = hs_aI h b j := by rw [hs_aI_ne hb]
theorem ty_fI_sF {h : pm_H} {a ci k j : Nat} {v : Value} (e : k ≠ j) : hs_fI (hs_sF h a ci k v) a j = hs_fI h a j := by
  unfold hs_fI
  rw [hs_fV_sF_ne e]
theorem ty_fR_sF {h : pm_H} {a ci k j : Nat} {v : Value} (e : k ≠ j) : hs_fR (hs_sF h a ci k v) a j = hs_fR h a j := by
  unfold hs_fR
  rw [hs_fV_sF_ne e]
theorem ty_fL_sF {h : pm_H} {a ci k j : Nat} {v : Value} (e : k ≠ j) : hs_fL (hs_sF h a ci k v) a j = hs_fL h a j := by
  unfold hs_fL
  rw [hs_fV_sF_ne e]
theorem ty_fI_eq {h : pm_H} (S : hs_Shape h) {a ci k : Nat} {fs : List (Nat × Nat)} {u : Int32} (hs : hs_sh a = (10 + ci, 0, fs)) (ha : a < 129) (hk : decide (k < fs.length) = true) : hs_fI (hs_sF h a ci k (.int u)) a k = u := by
  unfold hs_fI
  rw [hs_fV_sF S hs ha (of_decide_eq_true hk)]
theorem ty_fL_eq {h : pm_H} (S : hs_Shape h) {a ci k : Nat} {fs : List (Nat × Nat)} {u : Int64} (hs : hs_sh a = (10 + ci, 0, fs)) (ha : a < 129) (hk : decide (k < fs.length) = true) : hs_fL (hs_sF h a ci k (.long u)) a k = u := by
  unfold hs_fL
  rw [hs_fV_sF S hs ha (of_decide_eq_true hk)]
theorem ty_aI_sA {h : pm_H} {a t n i j : Nat} {x : Int32} (e : j ≠ i) : hs_aI (hs_sA h a t n i x) a j = hs_aI h a j := by
  rw [hs_aI_sA]
  unfold upd
  rw [if_neg e]
theorem ty_aI_eq {h : pm_H} {a t n i j : Nat} {x : Int32} (e : j = i) : hs_aI (hs_sA h a t n i x) a j = x := by
  rw [hs_aI_sA]
  unfold upd
  rw [if_pos e]
theorem ty_rusm {t : Nat} (ht : ty_ru t) : ty_sm (t + 1) := by
  rcases ht with rfl | rfl
  · exact Or.inl rfl
  · exact Or.inr (Or.inl rfl)
/-- scratch of rules, sums and deeds -/
def ty_Wu (a _k : Nat) : Prop := 72 ≤ a ∧ a ≤ 85
/-- the reader, its size, its token and tape aside; the token is one -/
def ty_Wr (a k : Nat) : Prop := (a = 62 ∧ k ≠ 1 ∧ k ≠ 3 ∧ k ≠ 4) ∨ (64 ≤ a ∧ a ≤ 71) ∨ a = 201
/-- the class, size, tape and references aside -/
def ty_Wc (a k : Nat) : Prop := a < 97 ∧ ¬ (a = 62 ∧ k = 1) ∧ a ≠ 63 ∧ ¬ (a = 0 ∧ k = 15)
/-- the model's doings: all but the tape, the code that was read, images, laws, hour and fate; nothing is ordered -/
def ty_Wx (a k : Nat) : Prop := a = 200 ∨ (97 ≤ a ∧ a < 129 ∧ (a = 97 → k ≠ 11 ∧ k ≠ 13 ∧ k ≠ 20 ∧ k ≠ 21 ∧ k ≠ 23) ∧ (a = 99 → k < 98 ∧ k ≠ 5 ∧ k ≠ 9) ∧ a ≠ 100 ∧ a ≠ 106 ∧ a ≠ 107 ∧ a ≠ 108 ∧ a ≠ 109 ∧ a ≠ 127)
/-- and fate -/
def ty_Wk (a k : Nat) : Prop := a = 200 ∨ (97 ≤ a ∧ a < 129 ∧ (a = 97 → k ≠ 11 ∧ k ≠ 13 ∧ k ≠ 20 ∧ k ≠ 21 ∧ k ≠ 23) ∧ (a = 99 → k < 98 ∧ k ≠ 5) ∧ a ≠ 100 ∧ a ≠ 106 ∧ a ≠ 107 ∧ a ≠ 108 ∧ a ≠ 109 ∧ a ≠ 127)
/-- and the hour, 999 at most -/
def ty_Wz (a k : Nat) : Prop := a = 200 ∨ a = 202 ∨ (97 ≤ a ∧ a < 129 ∧ (a = 97 → k ≠ 11 ∧ k ≠ 13 ∧ k ≠ 20 ∧ k ≠ 21 ∧ k ≠ 23) ∧ (a = 99 → k < 98) ∧ a ≠ 100 ∧ a ≠ 106 ∧ a ≠ 107 ∧ a ≠ 108 ∧ a ≠ 109 ∧ a ≠ 127)
/-- rests: hour and tired ones -/
def ty_Wh (a k : Nat) : Prop := a = 99 ∧ (k = 5 ∨ (18 ≤ k ∧ k < 26))
/-- what the model's sums write -/
def ty_Wy (a k : Nat) : Prop := a = 200 ∨ (a = 97 ∧ (k = 34 ∨ k = 38 ∨ k = 39 ∨ k = 40)) ∨ a = 115 ∨ a = 117
/-- the model's answers: thrown, status, refusals -/
def ty_Wt (a k : Nat) : Prop := (a = 97 ∧ (k = 0 ∨ k = 1)) ∨ a = 98
theorem ty_inc {X : pm_X} {d o : Nat} {ini : Bool} {ret : Option FieldType} {code : List pm_I} {pc : Nat} {ls : pm_Ls} {h : pm_H} {Q : pm_H → Option Value → Prop} {r : List Value} {k0 len a b : Nat} {v : Value} {n m : Int} {x : Int32} {ls' : Int32 → pm_Ls}
    (hf : pm_find code pc = some (.iinc k0 n, len, a, b, v)) (hl : pm_ld ls k0 = some (.int x)) (hn : ∀ z, pm_st1 ls k0 (.int z) = ls' z) (hc : (x + Int32.ofInt n).toInt = m) (k : ∀ z : Int32, z.toInt = m → hq_W X d o ini ret code (pc + 3, ls' z, r, h) Q) : hq_W X d o ini ret code (pc, ls, r, h) Q := by
  refine hq_W.step 0 hf (s' := (pc + 3, pm_st1 ls k0 (.int (x + Int32.ofInt n)), r, h)) ?_ (Nat.le_refl _) (Nat.le_refl _) (by rw [hn]; exact k _ hc)
  show (match pm_ld ls k0 with
    | some (.int x) => pm_go (pc + 3) (pm_st1 ls k0 (.int (x + Int32.ofInt n))) r h
    | _ => none) = _
  rw [hl]
  rfl
theorem ty_inca {X : pm_X} {d o : Nat} {ini : Bool} {ret : Option FieldType} {code : List pm_I} {pc : Nat} {ls : pm_Ls} {h : pm_H} {Q : pm_H → Option Value → Prop} {r : List Value} {k0 len a b : Nat} {v : Value} {n : Int} {x : Int32} {ls' : Int32 → pm_Ls}
    (hf : pm_find code pc = some (.iinc k0 n, len, a, b, v)) (hl : pm_ld ls k0 = some (.int x)) (hn : ∀ z, pm_st1 ls k0 (.int z) = ls' z) (k : ∀ z : Int32, -2147483648 ≤ z.toInt → z.toInt ≤ 2147483647 → hq_W X d o ini ret code (pc + 3, ls' z, r, h) Q) : hq_W X d o ini ret code (pc, ls, r, h) Q := by
  exact ty_inc hf hl hn rfl (fun z _ => k z (nm_lo z) (nm_hi z))
theorem ty_stq {ls : pm_Ls} {j : Nat} {v : Value} {ls' : pm_Ls} (hj : pm_two (ls.getD j none) = false) (hn : ls.set (j + 1) (some v) = ls') : pm_st1 ls (j + 1) v = ls' := by rw [ty_stp hj, hn]
theorem ty_stw {X : pm_X} {d o : Nat} {ini : Bool} {ret : Option FieldType} {code : List pm_I} {pc : Nat} {ls : pm_Ls} {h : pm_H} {Q : pm_H → Option Value → Prop} {r : List Value} {j pc' : Nat} {ls' : pm_Ls} {e : Instr × Nat × Nat × Nat × Value} {x : Int32}
    (hf : pm_find code pc = some e) (hs : pm_step X (pm_rn X 0 d) o ini ret pc ls (.int x :: r) h e.1 e.2.1 e.2.2.1 e.2.2.2.1 e.2.2.2.2 = pm_sti pc' ls (.int x :: r) h (j + 1)) (hj : pm_two (ls.getD j none) = false) (hl : decide (j + 1 < ls.length) = true) (hn : ls.set (j + 1) (some (.int x)) = ls') (k : hq_W X d o ini ret code (pc', ls', r, h) Q) : hq_W X d o ini ret code (pc, ls, .int x :: r, h) Q := by
  rw [← hn, ← ty_stp hj] at k
  refine hq_p hf ?_ k
  rw [hs]
  unfold pm_sti
  dsimp only
  rw [hl]
  rfl
theorem ty_stwa {X : pm_X} {d o : Nat} {ini : Bool} {ret : Option FieldType} {code : List pm_I} {pc : Nat} {ls : pm_Ls} {h : pm_H} {Q : pm_H → Option Value → Prop} {r : List Value} {j pc' q : Nat} {ls' : pm_Ls} {e : Instr × Nat × Nat × Nat × Value}
    (hf : pm_find code pc = some e) (hs : pm_step X (pm_rn X 0 d) o ini ret pc ls (.ref q :: r) h e.1 e.2.1 e.2.2.1 e.2.2.2.1 e.2.2.2.2 = pm_sta pc' ls (.ref q :: r) h (j + 1)) (hj : pm_two (ls.getD j none) = false) (hl : decide (j + 1 < ls.length) = true) (hn : ls.set (j + 1) (some (.ref q)) = ls') (k : hq_W X d o ini ret code (pc', ls', r, h) Q) : hq_W X d o ini ret code (pc, ls, .ref q :: r, h) Q := by
  rw [← hn, ← ty_stp hj] at k
  refine hq_p hf ?_ k
  rw [hs]
  unfold pm_sta
  dsimp only
  rw [hl]
  rfl
theorem ty_set_id {h : pm_H} {a : Nat} {c : pm_C} (e : h.2.2 a = c) : pm_hset h a c = h := by
  unfold pm_hset
  have k : va_up h.2.2 a c = h.2.2 := by
    funext b
    by_cases q : b = a
    · subst q; rw [va_up_self, e]
    · rw [va_up_ne _ _ q]
  rw [k]
theorem ty_set_set {h : pm_H} {a : Nat} {c c' : pm_C} : pm_hset (pm_hset h a c) a c' = pm_hset h a c' := by
  unfold pm_hset
  have k : va_up (va_up h.2.2 a c) a c' = va_up h.2.2 a c' := by
    funext b
    by_cases q : b = a
    · subst q; rw [va_up_self, va_up_self]
    · rw [va_up_ne _ _ q, va_up_ne _ _ q, va_up_ne _ _ q]
  dsimp only
  rw [k]
theorem ty_cell_a {h : pm_H} (S : hs_Shape h) {a n : Nat} (hs : hs_sh a = (0, n, [])) (ha : a < 129) : h.2.2 a = .inl (0, n, .inl (hs_aI h a)) := by
  have k := S.2 a ha
  rw [hs] at k
  unfold hs_aI
  cases hc : h.2.2 a with
  | inr x =>
    rw [hc] at k
    obtain ⟨k1, k2, k3⟩ := k
    exfalso
    dsimp only at k1
    omega
  | inl x =>
    rw [hc] at k
    obtain ⟨t, m, A⟩ := x
    obtain ⟨k1, k2, k3⟩ := k
    dsimp only at k1 k2 k3 ⊢
    subst k1
    subst k2
    obtain ⟨f, hf⟩ := k3
    dsimp only at hf
    subst hf
    rfl
theorem ty_cpyJ {W : Nat → Nat → Prop} {J : pm_H → Prop} {h : pm_H} {x y n m s d : Nat} (H : ty_C W J) (hJ : J h) (hs : hs_sh x = (0, n, [])) (hx : x < 129) (hs' : hs_sh y = (0, m, [])) (hy : y < 129) (h5 : x ≠ 99) : ∀ c : Nat, s + c ≤ m → d + c ≤ n → (∀ i, d ≤ i → i < d + c → W x i) → (∀ i, i < c → (ty_a x (d + i)).1 ≤ (ty_a y (s + i)).1 ∧ (ty_a y (s + i)).2 ≤ (ty_a x (d + i)).2) → J (pm_hset h x (.inl (0, n, .inl (va_cpy (hs_aI h y) (hs_aI h x) s d c)))) := by
  intro c
  induction c with
  | zero =>
    intro _ _ _ _
    have e : va_cpy (hs_aI h y) (hs_aI h x) s d 0 = hs_aI h x := by
      funext k
      unfold va_cpy
      rw [if_neg (by omega)]
    rw [e, ty_set_id (ty_cell_a (H.1 h hJ).1 hs hx)]
    exact hJ
  | succ c ih =>
    intro h1 h2 hw hl
    have j := ih (by omega) (by omega) (fun i a b => hw i a (by omega)) (fun i a => hl i (by omega))
    have q := (H.1 h hJ).2.2.2.1 y (s + c) hy (by rw [hs']; show s + c < m; omega)
    have l := hl c (by omega)
    have r := H.2.2.2.1 _ x n (d + c) 0 (hs_aI h y (s + c)) j (hw (d + c) (by omega) (by omega)) hx hs (Or.inl rfl) (by omega) (Int.le_trans l.1 q.1) (Int.le_trans q.2 l.2) (fun e => absurd e h5)
    unfold hs_sA at r
    have e1 : hs_aI (pm_hset h x (.inl (0, n, .inl (va_cpy (hs_aI h y) (hs_aI h x) s d c)))) x = va_cpy (hs_aI h y) (hs_aI h x) s d c := by
      rw [hs_aI, hs_same]
    rw [e1, ty_set_set] at r
    have e2 : upd (va_cpy (hs_aI h y) (hs_aI h x) s d c) (d + c) (hs_aI h y (s + c)) = va_cpy (hs_aI h y) (hs_aI h x) s d (c + 1) := by
      funext k
      unfold upd va_cpy
      by_cases q1 : k = d + c
      · subst q1
        rw [if_pos rfl, if_pos (by omega)]
        congr 1
        omega
      · rw [if_neg q1]
        by_cases q2 : d ≤ k ∧ k < d + c
        · rw [if_pos q2, if_pos (by omega)]
        · rw [if_neg q2, if_neg (by omega)]
    rw [e2] at r
    exact r
theorem ty_cpy {X : pm_X} {d o : Nat} {ini : Bool} {ret : Option FieldType} {code : List pm_I} {pc : Nat} {ls : pm_Ls} {h : pm_H} {Q : pm_H → Option Value → Prop} {r : List Value} {W : Nat → Nat → Prop} {J : pm_H → Prop} {ix len b x y n m : Nat} {v : Value} {sp dp c : Int32}
    (H : ty_C W J) (hJ : J h) (hf : pm_find code pc = some (.invokestatic ix, len, 5, b, v)) (hs : hs_sh x = (0, n, [])) (hx : x < 129) (hs' : hs_sh y = (0, m, [])) (hy : y < 129) (h5 : x ≠ 99) (h0 : 0 ≤ sp.toInt) (h1 : 0 ≤ dp.toInt) (h2 : 0 ≤ c.toInt) (h3 : sp.toInt + c.toInt ≤ m) (h4 : dp.toInt + c.toInt ≤ n) (hw : ∀ i : Nat, dp.toInt ≤ i → (i : Int) < dp.toInt + c.toInt → W x i) (hl : ∀ i : Nat, (i : Int) < c.toInt → (ty_a x (dp.toInt.toNat + i)).1 ≤ (ty_a y (sp.toInt.toNat + i)).1 ∧ (ty_a y (sp.toInt.toNat + i)).2 ≤ (ty_a x (dp.toInt.toNat + i)).2) (hr : pm_w8 r = true) (k : ∀ h1, J h1 → hq_W X d o ini ret code (pc + 3, ls, r, h1) Q) : hq_W X d o ini ret code (pc, ls, .int c :: .int dp :: .ref x :: .int sp :: .ref y :: r, h) Q := by
  have I := H.1 h hJ
  have j := ty_cpyJ (s := sp.toInt.toNat) (d := dp.toInt.toNat) H hJ hs hx hs' hy h5 c.toInt.toNat (by omega) (by omega) (fun i a b => hw i (by omega) (by omega)) (fun i a => hl i (by omega))
  refine hq_W.step 0 hf (s' := (pc + 3, ls, r, pm_hset h x (.inl (0, n, .inl (va_cpy (hs_aI h y) (hs_aI h x) sp.toInt.toNat dp.toInt.toNat c.toInt.toNat))))) ?_ (Nat.le_refl _) (Nat.le_refl _) (k _ j)
  show (match pm_arr X h (.ref y), pm_arr X h (.ref x) with
        | some (t0, n0, .inl f), some (t1, n1, .inl g) => bif t0 == 0 && t1 == 0 && !decide (sp < 0) && !decide (dp < 0) && !decide (c < 0) && decide (sp.toNatClampNeg + c.toNatClampNeg ≤ n0) && decide (dp.toNatClampNeg + c.toNatClampNeg ≤ n1) && pm_w8 r then
            pm_go (pc + 3) ls r (pm_hset h x (.inl (0, n1, .inl (va_cpy f g sp.toNatClampNeg dp.toNatClampNeg c.toNatClampNeg)))) else none
        | _, _ => none) = _
  rw [hs_iarr I.1 hs' hy, hs_iarr I.1 hs hx]
  dsimp only
  have e1 : ¬ sp < 0 := fun q => by have := nm_lt.mp q; rw [nm_0] at this; omega
  have e2 : ¬ dp < 0 := fun q => by have := nm_lt.mp q; rw [nm_0] at this; omega
  have e3 : ¬ c < 0 := fun q => by have := nm_lt.mp q; rw [nm_0] at this; omega
  rw [decide_eq_false e1, decide_eq_false e2, decide_eq_false e3, hr, decide_eq_true (show sp.toNatClampNeg + c.toNatClampNeg ≤ m by rw [nm_nat, nm_nat]; omega), decide_eq_true (show dp.toNatClampNeg + c.toNatClampNeg ≤ n by rw [nm_nat, nm_nat]; omega)]
  rfl
theorem ty_tx_k {h h' : pm_H} {x : Nat} (e1 : h'.1 = h.1) (e : ∀ a, 129 ≤ a → h'.2.2 a = h.2.2 a) (k : ty_tx h x) : ty_tx h' x := by
  obtain ⟨c, l, q1, q2, q3, q4, q5, q6, q7, q8, q9, q10⟩ := k
  refine ⟨c, l, q1, by rw [e1]; exact q2, q3, q4, q5, q6, ?_, fun i i1 i2 => ?_, ?_, ?_⟩
  · rw [e x q1]; exact q7
  · rw [e (x + i) (by omega)]; exact q8 i i1 i2
  · rw [e (x + 6) (by omega)]; exact q9
  · rw [e (x + 7) (by omega)]; exact q10
theorem ty_rarr {X : pm_X} {h : pm_H} (S : hs_Shape h) {a : Nat} (hs : hs_sh a = (3, 6, [])) (ha : a < 129) : pm_arr X h (.ref a) = some (3, 6, .inr (.inr (.inr (.inr (hs_aR h a))))) := by
  have k := S.2 a ha
  rw [hs] at k
  have h1 := S.1
  unfold pm_arr hs_aR
  dsimp only
  rw [decide_eq_true (show a < h.1 by omega)]
  cases hc : h.2.2 a with
  | inr x =>
    rw [hc] at k
    obtain ⟨k1, k2, k3⟩ := k
    exfalso
    dsimp only at k1
    omega
  | inl x =>
    rw [hc] at k
    obtain ⟨t, m, A⟩ := x
    obtain ⟨k1, k2, k3⟩ := k
    dsimp only at k1 k2 k3 ⊢
    subst k1
    subst k2
    obtain ⟨f, hf⟩ := k3
    dsimp only at hf
    subst hf
    rfl
theorem ty_rL {X : pm_X} {d o : Nat} {ini : Bool} {ret : Option FieldType} {code : List pm_I} {pc : Nat} {ls : pm_Ls} {h : pm_H} {Q : pm_H → Option Value → Prop} {r : List Value} {len a b t : Nat} {v : Value} {j : Int32}
    (I : ty_I h) (ht : ty_tr t) (hf : pm_find code pc = some (.aaload, len, a, b, v)) (h0 : 0 ≤ j.toInt) (h1 : j.toInt < 6) (k : ∀ w : Option Nat, (∀ x, w = some x → ty_tx h x) → hq_W X d o ini ret code (pc + 1, ls, va_rf w :: r, h) Q) : hq_W X d o ini ret code (pc, ls, .int j :: .ref (t + 10) :: r, h) Q := by
  exact hq_aald hf (ty_rarr I.1 (ty_trs10 ht) (by have := ty_trl ht; omega)) rfl (hs_in h0 (by omega)) (k _ (fun x e => I.2.2.2.2.1 t ht _ (by rw [nm_nat]; omega) x e))
theorem ty_rS {X : pm_X} {d o : Nat} {ini : Bool} {ret : Option FieldType} {code : List pm_I} {pc : Nat} {ls : pm_Ls} {h : pm_H} {Q : pm_H → Option Value → Prop} {r : List Value} {W : Nat → Nat → Prop} {J : pm_H → Prop} {len a b t : Nat} {v : Value} {j : Int32} {w : Option Nat}
    (H : ty_C W J) (hJ : J h) (ht : ty_tr t) (hf : pm_find code pc = some (.aastore, len, a, b, v)) (h0 : 0 ≤ j.toInt) (h1 : j.toInt < 6) (hw : ∀ i : Nat, W (t + 10) i) (hx : ∀ x, w = some x → ty_tx h x) (k : ∀ h1, h1 = hs_sR h (t + 10) j.toInt.toNat w → J h1 → hq_W X d o ini ret code (pc + 1, ls, r, h1) Q) : hq_W X d o ini ret code (pc, ls, va_rf w :: .int j :: .ref (t + 10) :: r, h) Q := by
  have I := H.1 h hJ
  have q : J (hs_sR h (t + 10) j.toInt.toNat w) := H.2.2.2.2.2.2.2.2 h t j.toInt.toNat w hJ (hw _) ht (by omega) hx
  have p := ty_rarr (X := X) I.1 (ty_trs10 ht) (by have := ty_trl ht; omega)
  refine hq_W.step 0 hf (s' := (pc + 1, ls, r, hs_sR h (t + 10) j.toInt.toNat w)) ?_ (Nat.le_refl _) (Nat.le_refl _) (k _ rfl q)
  cases w with
  | none =>
    show (match pm_arr X h (.ref (t + 10)) with
        | some (t, n, .inr (.inr (.inr (.inr f)))) => bif (t == 3 || t == 4) && pm_in j n then pm_go (pc + 1) ls r (pm_hset h _ (.inl (t, n, .inr (.inr (.inr (.inr (va_up f j.toNatClampNeg none))))))) else none
        | _ => none) = _
    rw [p]
    dsimp only
    rw [hs_in (n := 6) h0 (by omega)]
    rfl
  | some x =>
    obtain ⟨c, l, q1, q2, q3, q4, q5, q6, ⟨pp, q7⟩, q8⟩ := hx x rfl
    have o : pm_obj h (.ref x) = some (x, 7, [.int c, .ref (x + 1), .ref (x + 2), .ref (x + 3), .ref (x + 4), .ref (x + 5), .int l, .ref (x + 6), .ref (x + 7), .int pp]) := by
      unfold pm_obj
      dsimp only
      rw [decide_eq_true (show x < h.1 by omega), q7]
      rfl
    show (match pm_arr X h (.ref (t + 10)), pm_obj h (.ref x) with
        | some (t, n, .inr (.inr (.inr (.inr f)))), some (_, ci, _) => bif (t == 3 || t == 4) && pm_in j n && ci == pm_ak t then pm_go (pc + 1) ls r (pm_hset h _ (.inl (t, n, .inr (.inr (.inr (.inr (va_up f j.toNatClampNeg (some x)))))))) else none
        | _, _ => none) = _
    rw [p, o]
    dsimp only
    rw [hs_in (n := 6) h0 (by omega)]
    rfl
theorem ty_im {X : pm_X} {d o : Nat} {ini : Bool} {ret : Option FieldType} {code : List pm_I} {pc : Nat} {ls : pm_Ls} {h : pm_H} {Q : pm_H → Option Value → Prop} {r : List Value} {len a b : Nat} {v : Value} {j : Int32}
    (I : ty_I h) (hf : pm_find code pc = some (.aaload, len, a, b, v)) (h0 : 0 ≤ j.toInt) (h1 : j.toInt ≤ 1) (k : ∀ t, (t = 35 ∨ t = 46) → hq_W X d o ini ret code (pc + 1, ls, .ref t :: r, h) Q) : hq_W X d o ini ret code (pc, ls, .int j :: .ref 34 :: r, h) Q := by
  have q := I.1.2 34 (by decide)
  have e := I.2.2.2.2.2.1
  have g := I.1.1
  unfold hs_aR at e
  cases hc : h.2.2 34 with
  | inr x => rw [hc] at q; exact absurd q.1 (by show ¬ 10 + x.1 = 4; omega)
  | inl x =>
    obtain ⟨t, n, A⟩ := x
    rw [hc] at q
    have q1 : t = 4 := q.1
    have q2 : n = 2 := q.2.1
    subst q1
    subst q2
    obtain ⟨f, hf2⟩ := q.2.2
    have hf2 : A = .inr (.inr (.inr (.inr f))) := hf2
    subst hf2
    rw [hc] at e
    have p : pm_arr X h (.ref 34) = some (4, 2, .inr (.inr (.inr (.inr f)))) := by
      unfold pm_arr
      dsimp only
      rw [decide_eq_true (show 34 < h.1 by omega), hc]
      rfl
    refine hq_aald hf p rfl (hs_in h0 (by omega)) ?_
    have e0 : f 0 = some 35 := e.1
    have e1 : f 1 = some 46 := e.2
    have cs : j.toInt = 0 ∨ j.toInt = 1 := by omega
    rcases cs with c | c
    · rw [nm_nat, c]
      show hq_W X d o ini ret code (pc + 1, ls, va_rf (f 0) :: r, h) Q
      rw [e0]
      exact k 35 (Or.inl rfl)
    · rw [nm_nat, c]
      show hq_W X d o ini ret code (pc + 1, ls, va_rf (f 1) :: r, h) Q
      rw [e1]
      exact k 46 (Or.inr rfl)
theorem nk_b10 : ((Int8.ofInt 10).toInt32).toInt = 10 := by decide
theorem nk_b100 : ((Int8.ofInt 100).toInt32).toInt = 100 := by decide
theorem nk_b11 : ((Int8.ofInt 11).toInt32).toInt = 11 := by decide
theorem nk_b12 : ((Int8.ofInt 12).toInt32).toInt = 12 := by decide
theorem nk_b122 : ((Int8.ofInt 122).toInt32).toInt = 122 := by decide
theorem nk_b13 : ((Int8.ofInt 13).toInt32).toInt = 13 := by decide
theorem nk_b15 : ((Int8.ofInt 15).toInt32).toInt = 15 := by decide
theorem nk_b16 : ((Int8.ofInt 16).toInt32).toInt = 16 := by decide
theorem nk_b17 : ((Int8.ofInt 17).toInt32).toInt = 17 := by decide
theorem nk_b18 : ((Int8.ofInt 18).toInt32).toInt = 18 := by decide
theorem nk_b20 : ((Int8.ofInt 20).toInt32).toInt = 20 := by decide
theorem nk_b21 : ((Int8.ofInt 21).toInt32).toInt = 21 := by decide
theorem nk_b22 : ((Int8.ofInt 22).toInt32).toInt = 22 := by decide
theorem nk_b23 : ((Int8.ofInt 23).toInt32).toInt = 23 := by decide
theorem nk_b24 : ((Int8.ofInt 24).toInt32).toInt = 24 := by decide
theorem nk_b25 : ((Int8.ofInt 25).toInt32).toInt = 25 := by decide
theorem nk_b26 : ((Int8.ofInt 26).toInt32).toInt = 26 := by decide
theorem nk_b27 : ((Int8.ofInt 27).toInt32).toInt = 27 := by decide
theorem nk_b28 : ((Int8.ofInt 28).toInt32).toInt = 28 := by decide
theorem nk_b29 : ((Int8.ofInt 29).toInt32).toInt = 29 := by decide
theorem nk_b30 : ((Int8.ofInt 30).toInt32).toInt = 30 := by decide
theorem nk_b31 : ((Int8.ofInt 31).toInt32).toInt = 31 := by decide
theorem nk_b32 : ((Int8.ofInt 32).toInt32).toInt = 32 := by decide
theorem nk_b34 : ((Int8.ofInt 34).toInt32).toInt = 34 := by decide
theorem nk_b36 : ((Int8.ofInt 36).toInt32).toInt = 36 := by decide
theorem nk_b37 : ((Int8.ofInt 37).toInt32).toInt = 37 := by decide
theorem nk_b40 : ((Int8.ofInt 40).toInt32).toInt = 40 := by decide
theorem nk_b41 : ((Int8.ofInt 41).toInt32).toInt = 41 := by decide
theorem nk_b42 : ((Int8.ofInt 42).toInt32).toInt = 42 := by decide
theorem nk_b43 : ((Int8.ofInt 43).toInt32).toInt = 43 := by decide
theorem nk_b45 : ((Int8.ofInt 45).toInt32).toInt = 45 := by decide
theorem nk_b47 : ((Int8.ofInt 47).toInt32).toInt = 47 := by decide
theorem nk_b48 : ((Int8.ofInt 48).toInt32).toInt = 48 := by decide
theorem nk_b50 : ((Int8.ofInt 50).toInt32).toInt = 50 := by decide
theorem nk_b51 : ((Int8.ofInt 51).toInt32).toInt = 51 := by decide
theorem nk_b57 : ((Int8.ofInt 57).toInt32).toInt = 57 := by decide
theorem nk_b59 : ((Int8.ofInt 59).toInt32).toInt = 59 := by decide
theorem nk_b6 : ((Int8.ofInt 6).toInt32).toInt = 6 := by decide
theorem nk_b60 : ((Int8.ofInt 60).toInt32).toInt = 60 := by decide
theorem nk_b61 : ((Int8.ofInt 61).toInt32).toInt = 61 := by decide
theorem nk_b62 : ((Int8.ofInt 62).toInt32).toInt = 62 := by decide
theorem nk_b63 : ((Int8.ofInt 63).toInt32).toInt = 63 := by decide
theorem nk_b64 : ((Int8.ofInt 64).toInt32).toInt = 64 := by decide
theorem nk_b7 : ((Int8.ofInt 7).toInt32).toInt = 7 := by decide
theorem nk_b8 : ((Int8.ofInt 8).toInt32).toInt = 8 := by decide
theorem nk_b86 : ((Int8.ofInt 86).toInt32).toInt = 86 := by decide
theorem nk_b9 : ((Int8.ofInt 9).toInt32).toInt = 9 := by decide
theorem nk_b91 : ((Int8.ofInt 91).toInt32).toInt = 91 := by decide
theorem nk_b93 : ((Int8.ofInt 93).toInt32).toInt = 93 := by decide
theorem nk_b96 : ((Int8.ofInt 96).toInt32).toInt = 96 := by decide
theorem nk_b97 : ((Int8.ofInt 97).toInt32).toInt = 97 := by decide
theorem nk_b98 : ((Int8.ofInt 98).toInt32).toInt = 98 := by decide
theorem nk_b99 : ((Int8.ofInt 99).toInt32).toInt = 99 := by decide
theorem nk_bm2 : ((Int8.ofInt (-2)).toInt32).toInt = -2 := by decide
theorem nk_bm3 : ((Int8.ofInt (-3)).toInt32).toInt = -3 := by decide
theorem nk_bm5 : ((Int8.ofInt (-5)).toInt32).toInt = -5 := by decide
theorem nk_bm6 : ((Int8.ofInt (-6)).toInt32).toInt = -6 := by decide
theorem nk_d1000000 : ((1000000 : Int32)).toInt = 1000000 := by decide
theorem nk_d100000000 : ((100000000 : Int32)).toInt = 100000000 := by decide
theorem nk_d1000003 : ((1000003 : Int32)).toInt = 1000003 := by decide
theorem nk_d1048576 : ((1048576 : Int32)).toInt = 1048576 := by decide
theorem nk_d1431655765 : ((1431655765 : Int32)).toInt = 1431655765 := by decide
theorem nk_d252645135 : ((252645135 : Int32)).toInt = 252645135 := by decide
theorem nk_d858993459 : ((858993459 : Int32)).toInt = 858993459 := by decide
theorem nk_dm2000000000 : ((-2000000000 : Int32)).toInt = -2000000000 := by decide
theorem nk_i0 : (Int32.ofInt 0).toInt = 0 := by decide
theorem nk_i1 : (Int32.ofInt 1).toInt = 1 := by decide
theorem nk_i2 : (Int32.ofInt 2).toInt = 2 := by decide
theorem nk_i3 : (Int32.ofInt 3).toInt = 3 := by decide
theorem nk_i4 : (Int32.ofInt 4).toInt = 4 := by decide
theorem nk_i5 : (Int32.ofInt 5).toInt = 5 := by decide
theorem nk_im1 : (Int32.ofInt (-1)).toInt = -1 := by decide
theorem nk_im8 : (Int32.ofInt (-8)).toInt = -8 := by decide
theorem nk_s1000 : ((Int16.ofInt 1000).toInt32).toInt = 1000 := by decide
theorem nk_s10996 : ((Int16.ofInt 10996).toInt32).toInt = 10996 := by decide
theorem nk_s1103 : ((Int16.ofInt 1103).toInt32).toInt = 1103 := by decide
theorem nk_s12345 : ((Int16.ofInt 12345).toInt32).toInt = 12345 := by decide
theorem nk_s2048 : ((Int16.ofInt 2048).toInt32).toInt = 2048 := by decide
theorem nk_s2304 : ((Int16.ofInt 2304).toInt32).toInt = 2304 := by decide
theorem nk_s255 : ((Int16.ofInt 255).toInt32).toInt = 255 := by decide
theorem nk_s256 : ((Int16.ofInt 256).toInt32).toInt = 256 := by decide
theorem nk_s296 : ((Int16.ofInt 296).toInt32).toInt = 296 := by decide
theorem nk_s380 : ((Int16.ofInt 380).toInt32).toInt = 380 := by decide
theorem nk_s400 : ((Int16.ofInt 400).toInt32).toInt = 400 := by decide
theorem nk_s435 : ((Int16.ofInt 435).toInt32).toInt = 435 := by decide
theorem nk_s448 : ((Int16.ofInt 448).toInt32).toInt = 448 := by decide
theorem nk_s464 : ((Int16.ofInt 464).toInt32).toInt = 464 := by decide
theorem nk_s522 : ((Int16.ofInt 522).toInt32).toInt = 522 := by decide
theorem nk_s5498 : ((Int16.ofInt 5498).toInt32).toInt = 5498 := by decide
theorem nk_s900 : ((Int16.ofInt 900).toInt32).toInt = 900 := by decide
theorem nk_s999 : ((Int16.ofInt 999).toInt32).toInt = 999 := by decide
theorem nk_s9999 : ((Int16.ofInt 9999).toInt32).toInt = 9999 := by decide
end MOR
