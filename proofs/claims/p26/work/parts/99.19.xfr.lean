/-! THE CLASS READS: words of its state -/
section XFR
/-- the reader's token begins at s -/
def xr (F : Nat → Int32) (T : Nat) (h : pm_H) (s : Nat) : Prop := (hs_fI h 62 1).toInt = T ∧ hs_aI h 63 = F ∧ (hs_fI h 62 3).toInt = s ∧ (hs_fI h 62 4).toInt = xt_E F T s ∧ s ≤ T ∧ T ≤ 400
/-- a String's bytes -/
def xs_w (k : Nat) : List Int := (pm_strB.getD k []).map Int32.toInt
theorem xs_wl {k : Nat} : ((xs_w k).length : Int) = ty_sn k := by unfold xs_w ty_sn; rw [List.length_map]
theorem xs_wi {k i : Nat} (h : i < (xs_w k).length) : (xs_w k).getD i 0 = (xq_sb k i).toInt := by
  unfold xs_w at h ⊢
  unfold xq_sb
  rw [List.length_map] at h
  generalize pm_strB.getD k [] = l at h ⊢
  rw [List.getD_eq_getElem?_getD, List.getElem?_map, List.getElem?_eq_getElem h]
  show (l[i]'h).toInt = (l.getD i 0).toInt
  rw [List.getD_eq_getElem?_getD, List.getElem?_eq_getElem h]
  rfl
theorem xt_lt1 {F : Nat → Int32} {i : Nat} (h0 : 97 ≤ (F i).toInt) (h1 : (F i).toInt ≤ 122) : xt_lt F i = true := by unfold xt_lt; rw [decide_eq_true h0, decide_eq_true h1]; rfl
theorem xt_lt0 {F : Nat → Int32} {i : Nat} (h : (F i).toInt < 97 ∨ 122 < (F i).toInt) : xt_lt F i = false := by
  unfold xt_lt
  rw [Bool.and_eq_false_iff, decide_eq_false_iff_not, decide_eq_false_iff_not]
  omega
theorem xt_dg1 {F : Nat → Int32} {i : Nat} (h0 : 48 ≤ (F i).toInt) (h1 : (F i).toInt ≤ 57) : xt_dg F i = true := by unfold xt_dg; rw [decide_eq_true h0, decide_eq_true h1]; rfl
theorem xt_dg0 {F : Nat → Int32} {i : Nat} (h : (F i).toInt < 48 ∨ 57 < (F i).toInt) : xt_dg F i = false := by
  unfold xt_dg
  rw [Bool.and_eq_false_iff, decide_eq_false_iff_not, decide_eq_false_iff_not]
  omega
/-- from a to b all are so -/
def xt_all (p : Nat → Bool) (T a b : Nat) : Prop := a ≤ b ∧ b ≤ T ∧ ∀ i, a ≤ i → i < b → i < T ∧ p i = true
theorem xt_all.zero {p : Nat → Bool} {T a : Nat} (h : a ≤ T) : xt_all p T a a := ⟨Nat.le_refl _, h, fun i h1 h2 => absurd h2 (by omega)⟩
theorem xt_all.succ {p : Nat → Bool} {T a b : Nat} (h : xt_all p T a b) (hb : b < T) (hp : p b = true) : xt_all p T a (b + 1) := ⟨Nat.le_succ_of_le h.1, hb, fun i h1 h2 => by
  by_cases e : i = b
  · subst e; exact ⟨hb, hp⟩
  · exact h.2.2 i h1 (by omega)⟩
theorem xt_all.fin {p : Nat → Bool} {T a b : Nat} (h : xt_all p T a b) (hb : b < T → p b = false) : xt_w p T (T - a) a = b := xt_u (by have := h.1; omega) h.1 h.2.2 hb
theorem xt_S_f {F : Nat → Int32} {T q y : Nat} (h : xt_all (xt_bl F) T q y) (hb : y < T → ¬ (F y).toInt = 32) : xt_S F T q = y := h.fin (fun k => decide_eq_false (hb k))
theorem xt_E_l {F : Nat → Int32} {T s e : Nat} (h : xt_all (xt_lt F) T s e) (hb : e < T → xt_lt F e = false) (hn : s < e) : xt_E F T s = e := by
  unfold xt_E
  rw [decide_eq_true (show s < T by have := h.2.1; omega), (h.2.2 s (Nat.le_refl _) hn).2]
  exact h.fin hb
theorem xt_E_d {F : Nat → Int32} {T s e : Nat} (h0 : s < T → xt_lt F s = false) (h : xt_all (xt_dg F) T s e) (hb : e < T → xt_dg F e = false) (hn : s < e) : xt_E F T s = e := by
  unfold xt_E
  rw [decide_eq_true (show s < T by have := h.2.1; omega), h0 (by have := h.2.1; omega), (h.2.2 s (Nat.le_refl _) hn).2]
  exact h.fin hb
theorem xt_E_s {F : Nat → Int32} {T s : Nat} (hs : s < T) (h0 : xt_lt F s = false) (h1 : xt_dg F s = false) : xt_E F T s = s + 1 := by
  unfold xt_E
  rw [decide_eq_true hs, h0, h1]
  rfl
theorem xt_E_e {F : Nat → Int32} {T s : Nat} (hs : ¬ s < T) : xt_E F T s = s := by
  unfold xt_E
  rw [decide_eq_false hs]
  rfl
end XFR
