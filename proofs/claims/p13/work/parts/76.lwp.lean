/-! A LAW'S CLAUSES, as they are read -/
section LWP
def lw1 (A7 A8 A9 : Nat → Int32) (n : Int) (a b : Nat) : Prop := 0 ≤ pt A7 a ∧ pt A7 a ≤ pt A7 b ∧ pt A7 b ≤ n ∧ ty_cw (pt A8) (pt A9) (pt A7 a) (pt A7 b)
def lwp (A7 A8 A9 : Nat → Int32) (nc n : Int) : Prop := ∀ c : Nat, (c : Int) < nc → lw1 A7 A8 A9 n (8 * c + 3) (8 * c + 4) ∧ lw1 A7 A8 A9 n (8 * c + 5) (8 * c + 6)
theorem cw_cong {op op' ar ar' : Nat → Int} {s e : Int} (h : ty_cw op ar s e) (e1 : ∀ k : Nat, (k : Int) < e → op' k = op k ∧ ar' k = ar k) : ty_cw op' ar' s e := by
  obtain ⟨D, hD⟩ := h
  refine ⟨D, fun k h0 h1 => ?_⟩
  obtain ⟨q0, q1, q2⟩ := hD k h0 h1
  refine ⟨q0, q1, fun h2 => ?_⟩
  rw [(e1 k h2).1, (e1 k h2).2]
  exact q2 h2
theorem cw_nil {op ar : Nat → Int} {s e : Int} (h : s = e) : ty_cw op ar s e := ⟨fun _ => 0, fun k h0 h1 => ⟨Int.le_refl _, by dsimp only; omega, fun h2 => by omega⟩⟩
theorem lw1_cong {A7 A8 A9 A7' A8' A9' : Nat → Int32} {n n' : Int} {a b : Nat} (h : lw1 A7 A8 A9 n a b) (ea : pt A7' a = pt A7 a) (eb : pt A7' b = pt A7 b) (e1 : ∀ k : Nat, (k : Int) < n → pt A8' k = pt A8 k ∧ pt A9' k = pt A9 k) (hn : n ≤ n') : lw1 A7' A8' A9' n' a b := by
  obtain ⟨h1, h2, h3, h4⟩ := h
  unfold lw1
  rw [ea, eb]
  exact ⟨h1, h2, by omega, cw_cong h4 (fun k hk => e1 k (by omega))⟩
theorem lwp_s {A7 A8 A9 A7' A8' A9' : Nat → Int32} {nc nc' n n' : Int} {c : Nat} (h : lwp A7 A8 A9 nc n) (hc : (c : Int) = nc) (e7 : ∀ j, j < 8 * c → pt A7' j = pt A7 j) (e1 : ∀ k : Nat, (k : Int) < n → pt A8' k = pt A8 k ∧ pt A9' k = pt A9 k) (hn : n ≤ n') (hc' : nc' = nc + 1) (h1 : lw1 A7' A8' A9' n' (8 * c + 3) (8 * c + 4)) (h2 : lw1 A7' A8' A9' n' (8 * c + 5) (8 * c + 6)) : lwp A7' A8' A9' nc' n' := by
  intro d hd
  by_cases e : d = c
  · subst e
    exact ⟨h1, h2⟩
  · obtain ⟨q1, q2⟩ := h d (by omega)
    exact ⟨lw1_cong q1 (e7 _ (by omega)) (e7 _ (by omega)) e1 hn, lw1_cong q2 (e7 _ (by omega)) (e7 _ (by omega)) e1 hn⟩
theorem lwp_0 {A7 A8 A9 : Nat → Int32} {nc n : Int} (h : nc = 0) : lwp A7 A8 A9 nc n := fun c hc => by omega
theorem lwp_e {A7 A8 A9 A7' A8' A9' : Nat → Int32} {nc nc' n n' : Int} (h : lwp A7 A8 A9 nc n) (e7 : A7' = A7) (e8 : A8' = A8) (e9 : A9' = A9) (ec : nc' = nc) (en : n' = n) : lwp A7' A8' A9' nc' n' := by
  rw [e7, e8, e9, ec, en]
  exact h
/-- a clause, when both are read -/
theorem lw1_m {A7 A8 A9 : Nat → Int32} {n x y : Int} {a b : Nat} (ea : pt A7 a = x) (eb : pt A7 b = y) (h0 : 0 ≤ x) (h1 : x ≤ y) (h2 : y ≤ n) (h : ty_cw (pt A8) (pt A9) x y) : lw1 A7 A8 A9 n a b := by
  unfold lw1
  rw [ea, eb]
  exact ⟨h0, h1, h2, h⟩
end LWP
