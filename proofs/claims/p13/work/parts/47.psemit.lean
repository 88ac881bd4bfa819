/-! something is emitted; the pile is the same or its top is gone -/
section PSE
theorem ps_emit {op ar pl pa op' ar' : Nat → Int} {s n m m' : Nat} {v w o : Int} (h : ps_ok op ar pl pa s n m v) (hs : s ≤ n) (e1 : ∀ k, k < n → op' k = op k) (e2 : ∀ k, k < n → ar' k = ar k) (eo : op' n = o)
    (hm : m' = m ∨ (m = m' + 1 ∧ (pl m' < 29 ∨ 30 < pl m')))
    (ho : (0 ≤ o ∧ o ≤ 12 ∧ w + ps_c pl m' = v + ps_c pl m + 1) ∨ (20 ≤ o ∧ o < 28 ∧ 2 ≤ v + ps_c pl m ∧ w + ps_c pl m' = v + ps_c pl m - 1) ∨ (o = 28 ∧ 1 ≤ v + ps_c pl m ∧ w + ps_c pl m' = v + ps_c pl m)) : ps_ok op' ar' pl pa s (n + 1) m' w := by
  obtain ⟨D, d1, d2, d3, d4⟩ := h
  have bn := d1 n hs (Nat.le_refl n)
  refine ⟨fun k => if k ≤ n then D k else w + ps_c pl m', fun k h0 h1 => ?_, fun k h0 h1 => ?_, ?_, fun j hj p1 p2 => ?_⟩
  · by_cases c : k ≤ n
    · dsimp only
      rw [if_pos c]
      exact d1 k h0 c
    · dsimp only
      rw [if_neg c]
      have : k = n + 1 := by omega
      subst this
      omega
  · by_cases c : k < n
    · obtain ⟨q0, q1, q2, q3, q4⟩ := d2 k h0 c
      unfold ps_k
      dsimp only
      rw [if_pos (show k + 1 ≤ n by omega), if_pos (show k ≤ n by omega), e1 k c, e2 k c]
      refine ⟨q0, q1, q2, q3, fun h3 => ?_⟩
      obtain ⟨r1, r2, r3⟩ := q4 h3
      refine ⟨r1, r2, ?_⟩
      rcases r3 with ⟨r3, r4, r5⟩ | ⟨j, hj, p1, p2, ej⟩
      · refine Or.inl ⟨r3, by omega, ?_⟩
        rw [if_pos (by omega)]
        exact r5
      · refine Or.inr ⟨j, ?_, p1, p2, ej⟩
        rcases hm with hm | ⟨hm, hp⟩
        · omega
        · by_cases q : j = m'
          · subst q
            omega
          · omega
    · have : k = n := by omega
      subst this
      unfold ps_k
      dsimp only
      rw [if_neg (show ¬ k + 1 ≤ k by omega), if_pos (Nat.le_refl k), eo]
      refine ⟨by omega, fun _ => by omega, fun _ _ => by omega, fun _ => by omega, fun _ => by omega⟩
  · dsimp only
    rw [if_neg (by omega)]
  · have hj' : j < m := by omega
    obtain ⟨r1, r2, r3⟩ := d4 j hj' p1 p2
    refine ⟨r1, by omega, ?_⟩
    dsimp only
    rw [if_pos (by omega)]
    exact r3
end PSE
