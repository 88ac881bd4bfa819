/-! more sets of what the class writes, and its closures -/
section ZMO
theorem tw_arr1 {t o k : Nat} (ht : ty_tr t) (ho : (decide (1 ≤ o) && decide (o ≤ 10) && o != 6) = true) : ty_Wc1 (t + o) k := by
  have h1 : 1 ≤ o ∧ o ≤ 10 ∧ o ≠ 6 := by
    rw [Bool.and_eq_true, Bool.and_eq_true, decide_eq_true_eq, decide_eq_true_eq] at ho
    refine ⟨ho.1.1, ho.1.2, fun e => ?_⟩
    subst e
    cases ho.2
  rcases ht with rfl | rfl | rfl | rfl | rfl <;> (unfold ty_Wc1; omega)
/-- orders, lanes c are those of now -/
def ty_Wcnl (c a k : Nat) : Prop := a < 97 ∧ a ≠ 63 ∧ a ≠ 57 ∧ a ≠ c ∧ a ≠ 41 ∧ a ≠ 52 ∧ ¬ (a = 0 ∧ k = 15)
end ZMO
