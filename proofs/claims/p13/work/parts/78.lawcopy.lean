/-! A LAW IS PUT INTO THE ROW -/
section LAC
def rw_h (h : pm_H) (R : Nat → Int32) : pm_H := pm_hset h 99 (.inl (0, 5498, .inl R))
theorem rw_a {h : pm_H} {R : Nat → Int32} : hs_aI (rw_h h R) 99 = R := by
  unfold rw_h
  rw [hs_aI, hs_same]
theorem rw_o {h : pm_H} {R : Nat → Int32} {b : Nat} (hb : b ≠ 99) : hs_aI (rw_h h R) b = hs_aI h b := hs_aI_ne hb
theorem rw_f {h : pm_H} {R : Nat → Int32} {b k : Nat} (hb : b ≠ 99) : hs_fI (rw_h h R) b k = hs_fI h b k := hs_fI_ne hb
theorem rw_S {h : pm_H} (S : hs_Shape h) {R : Nat → Int32} : hs_Shape (rw_h h R) := by
  refine hs_keep S ?_
  exact ⟨rfl, rfl, ⟨_, rfl⟩⟩
theorem rw_s {h : pm_H} {R : Nat → Int32} {j : Nat} {x : Int32} : hs_sA (rw_h h R) 99 0 5498 j x = rw_h h (upd R j x) := by
  unfold hs_sA
  rw [rw_a]
  unfold rw_h
  exact ty_set_set
theorem rw_id {h : pm_H} (S : hs_Shape h) : rw_h h (hs_aI h 99) = h := ty_set_id (ty_cell_a S rfl (by decide))
theorem rb_hi {j : Nat} (h : 98 ≤ j) : ty_rb j = ty_F := by
  unfold ty_rb
  rw [decide_eq_false (show ¬ j < 2 by omega), decide_eq_false (show ¬ j < 4 by omega), beq_false_of_ne (show j ≠ 4 by omega), beq_false_of_ne (show j ≠ 5 by omega), beq_false_of_ne (show j ≠ 8 by omega), beq_false_of_ne (show j ≠ 9 by omega), decide_eq_false (show ¬ j < 18 by omega), decide_eq_false (show ¬ j < 34 by omega), decide_eq_false (show ¬ j < 42 by omega), decide_eq_false (show ¬ j < 86 by omega), decide_eq_false (show ¬ j < 98 by omega)]
  simp only [Bool.and_false, Bool.false_and, cond_false]
/-- what is written of it, up to here -/
def la_ok (R0 A7 A8 A9 : Nat → Int32) (a : Nat) (nc : Int) (n1 n2 : Nat) (R : Nat → Int32) : Prop := (∀ j, j ≤ a → R j = R0 j) ∧ (∀ j, a + 900 ≤ j → R j = R0 j) ∧ (R (a + 1)).toInt = nc ∧ (∀ j, j < n1 → R (a + 2 + j) = A7 j) ∧ (∀ k, k < n2 → R (a + 98 + 2 * k) = A8 k ∧ R (a + 98 + 2 * k + 1) = A9 k)
theorem la_0 {R0 A7 A8 A9 : Nat → Int32} {a i : Nat} {nc : Int} {x : Int32} (hx : x.toInt = nc) (hi : i = a + 1) : la_ok R0 A7 A8 A9 a nc 0 0 (upd R0 i x) := by
  subst hi
  refine ⟨fun j hj => ?_, fun j hj => ?_, ?_, fun j hj => by omega, fun k hk => by omega⟩
  · unfold upd; rw [if_neg (by omega)]
  · unfold upd; rw [if_neg (by omega)]
  · unfold upd; rw [if_pos rfl]; exact hx
theorem la_1 {R0 A7 A8 A9 R : Nat → Int32} {a i n1 : Nat} {nc : Int} {x : Int32} (h : la_ok R0 A7 A8 A9 a nc n1 0 R) (hx : x = A7 n1) (hi : i = a + 2 + n1) (hn : n1 < 96) : la_ok R0 A7 A8 A9 a nc (n1 + 1) 0 (upd R i x) := by
  obtain ⟨h1, h2, h3, h4, h5⟩ := h
  subst hi
  refine ⟨fun j hj => ?_, fun j hj => ?_, ?_, fun j hj => ?_, fun k hk => by omega⟩
  · unfold upd; rw [if_neg (by omega)]; exact h1 j hj
  · unfold upd; rw [if_neg (by omega)]; exact h2 j hj
  · unfold upd; rw [if_neg (by omega)]; exact h3
  · unfold upd
    by_cases e : j = n1
    · subst e; rw [if_pos rfl, hx]
    · rw [if_neg (by omega)]; exact h4 j (by omega)
theorem la_2 {R0 A7 A8 A9 R : Nat → Int32} {a i i' n1 n2 : Nat} {nc : Int} {x y : Int32} (h : la_ok R0 A7 A8 A9 a nc n1 n2 R) (hx : x = A8 n2) (hy : y = A9 n2) (hi : i = a + 98 + 2 * n2) (hi' : i' = a + 98 + 2 * n2 + 1) (hn : n2 < 400) (hn1 : n1 ≤ 96) : la_ok R0 A7 A8 A9 a nc n1 (n2 + 1) (upd (upd R i x) i' y) := by
  obtain ⟨h1, h2, h3, h4, h5⟩ := h
  subst hi
  subst hi'
  have e : ∀ j, j ≠ a + 98 + 2 * n2 → j ≠ a + 98 + 2 * n2 + 1 → upd (upd R (a + 98 + 2 * n2) x) (a + 98 + 2 * n2 + 1) y j = R j := fun j j1 j2 => by unfold upd; rw [if_neg j2, if_neg j1]
  refine ⟨fun j hj => ?_, fun j hj => ?_, ?_, fun j hj => ?_, fun k hk => ?_⟩
  · rw [e j (by omega) (by omega)]; exact h1 j hj
  · rw [e j (by omega) (by omega)]; exact h2 j hj
  · rw [e _ (by omega) (by omega)]; exact h3
  · rw [e _ (by omega) (by omega)]; exact h4 j hj
  · by_cases c : k = n2
    · subst c
      refine ⟨?_, ?_⟩
      · unfold upd; rw [if_neg (by omega), if_pos rfl, hx]
      · unfold upd; rw [if_pos rfl, hy]
    · rw [e _ (by omega) (by omega), e _ (by omega) (by omega)]
      exact h5 k (by omega)
/-- it is a law -/
theorem la_lw {R0 A7 A8 A9 R : Nat → Int32} {a n1 n2 : Nat} {nc n : Int} (h : la_ok R0 A7 A8 A9 a nc n1 n2 R) (hl : lwp A7 A8 A9 nc n) (c0 : 0 ≤ nc) (c1 : nc ≤ 12) (e1 : (n1 : Int) = 8 * nc) (e2 : (n2 : Int) = n) (h4 : n ≤ 400) : ty_lw R a := by
  obtain ⟨h1, h2, h3, h4', h5⟩ := h
  refine ⟨by omega, by omega, fun c hc => ?_⟩
  rw [h3] at hc
  obtain ⟨q1, q2⟩ := hl c hc
  have g : ∀ m, m < 8 → R (a + 2 + 8 * c + m) = A7 (8 * c + m) := fun m hm => by
    have q := h4' (8 * c + m) (by omega)
    rw [show a + 2 + (8 * c + m) = a + 2 + 8 * c + m by omega] at q
    exact q
  have w : ∀ x y : Nat, lw1 A7 A8 A9 n x y → ty_rw R a (pt A7 x) (pt A7 y) := by
    intro x y q
    obtain ⟨p1, p2, p3, p4⟩ := q
    refine ⟨p1, p2, by omega, cw_cong p4 (fun k hk => ?_)⟩
    have r := h5 k (by omega)
    exact ⟨by show (R (a + 98 + 2 * k)).toInt = (A8 k).toInt; rw [r.1], by show (R (a + 98 + 2 * k + 1)).toInt = (A9 k).toInt; rw [r.2]⟩
  rw [g 3 (by omega), g 4 (by omega), g 5 (by omega), g 6 (by omega)]
  exact ⟨w _ _ q1, w _ _ q2⟩
theorem rw_I {h : pm_H} (I : ty_I h) {R : Nat → Int32} (hb : ∀ j, j < 5498 → (ty_rb j).1 ≤ (R j).toInt ∧ (R j).toInt ≤ (ty_rb j).2) (hl : ∀ l, l < 6 → ty_lw R (98 + 900 * l)) : ty_I (rw_h h R) := by
  obtain ⟨S, F, L, A, X⟩ := I
  have c1 : (rw_h h R).2.2 99 = .inl (0, 5498, .inl R) := hs_same
  have c2 : h.2.2 99 = .inl (0, 5498, .inl (hs_aI h 99)) := ty_cell_a S rfl (by decide)
  have v1 : hs_vs (rw_h h R) 99 = [] := by unfold hs_vs; rw [c1]
  have v2 : hs_vs h 99 = [] := by unfold hs_vs; rw [c2]
  have vv : ∀ b j, hs_fV (rw_h h R) b j = hs_fV h b j := fun b j => by
    by_cases e : b = 99
    · subst e
      unfold hs_fV
      rw [v1, v2]
    · exact hs_fV_ne e
  refine ⟨rw_S S, fun b j hb' => ?_, fun b j hb' => ?_, fun b i hb' hi => ?_, fun t ht j hj x q => ?_, ?_, fun l hl' => ?_, fun i l hi hl' => ?_⟩
  · have q : hs_fI (rw_h h R) b j = hs_fI h b j := by unfold hs_fI; rw [vv]
    rw [q]
    exact F b j hb'
  · have q : hs_fL (rw_h h R) b j = hs_fL h b j := by unfold hs_fL; rw [vv]
    rw [q]
    exact L b j hb'
  · by_cases e : b = 99
    · subst e
      rw [rw_a]
      exact hb i hi
    · rw [rw_o e]
      exact A b i hb' hi
  · have tl := ty_trl ht
    have e : hs_aR (rw_h h R) (t + 10) = hs_aR h (t + 10) := tb_aR_ne (by omega)
    rw [e] at q
    exact ty_tx_k (h := h) rfl (fun b hb => hs_oth (by omega)) (X.1 t ht j hj x q)
  · have e : hs_aR (rw_h h R) 34 = hs_aR h 34 := tb_aR_ne (by decide)
    rw [e]
    exact X.2.1
  · rw [rw_a]
    exact hl l hl'
  · rw [rw_o (by decide)]
    exact X.2.2.2 i l hi hl'
end LAC
