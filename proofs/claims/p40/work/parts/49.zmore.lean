/-! more sets of what the class writes -/
section ZMO
theorem tw_arr1 {t o k : Nat} (ht : ty_tr t) (ho : (decide (1 ≤ o) && decide (o ≤ 10)) = true) : ty_Wc1 (t + o) k := by
  have h1 : 1 ≤ o ∧ o ≤ 10 := by
    rw [Bool.and_eq_true, decide_eq_true_eq, decide_eq_true_eq] at ho
    exact ho
  rcases ht with rfl | rfl | rfl | rfl | rfl <;> (unfold ty_Wc1; omega)
/-- orders, n for now -/
def ty_Wcn (n a k : Nat) : Prop := a < 97 ∧ a ≠ 63 ∧ a ≠ 57 ∧ ¬ ((a = n ∨ a = 35 ∨ a = 46) ∧ (k = 0 ∨ k = 3 ∨ k = 10))
end ZMO
