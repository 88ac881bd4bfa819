/-! an AND, an OR is aimed; one is emitted and piled -/
section PSA
theorem ps_b0 {x : Int} (h : 28 ≤ x) : ps_b x = 0 := by
  unfold ps_b
  rw [if_neg (by omega)]
theorem ps_aim {op ar pl pa ar' : Nat → Int} {s n m : Nat} (h : ps_ok op ar pl pa s n (m + 1) 1) (p1 : 29 ≤ pl m) (p2 : pl m ≤ 30) (e1 : ar' (pa m).toNat = n) (e2 : ∀ k, k ≠ (pa m).toNat → ar' k = ar k) : ps_ok op ar' pl pa s n m 1 := by
  obtain ⟨D, d1, d2, d3, d4⟩ := h
  have d3 : D n = 1 + (ps_c pl m + ps_b (pl m)) := d3
  rw [ps_b0 (by omega)] at d3
  obtain ⟨t1, t2, t3⟩ := d4 m (by omega) p1 p2
  refine ⟨D, d1, fun k h0 h1 => ?_, by omega, fun j hj q1 q2 => d4 j (by omega) q1 q2⟩
  obtain ⟨q0, q1, q2, q3, q4⟩ := d2 k h0 h1
  refine ⟨q0, q1, q2, q3, fun h3 => ?_⟩
  obtain ⟨r1, r2, r3⟩ := q4 h3
  refine ⟨r1, r2, ?_⟩
  by_cases c : k = (pa m).toNat
  · refine Or.inl ?_
    rw [c, e1]
    refine ⟨by omega, by omega, ?_⟩
    rw [show ((n : Int)).toNat = n by omega, t3]
    omega
  · rw [e2 k c]
    rcases r3 with r3 | ⟨j, hj, g1, g2, ej⟩
    · exact Or.inl r3
    · refine Or.inr ⟨j, ?_, g1, g2, ej⟩
      by_cases q : j = m
      · subst q
        omega
      · omega
theorem ps_and {op ar pl pa op' ar' pl' pa' : Nat → Int} {s n m : Nat} {o : Int} (h : ps_ok op ar pl pa s n m 1) (hs : s ≤ n) (e1 : ∀ k, k < n → op' k = op k) (e2 : ∀ k, k < n → ar' k = ar k) (eo : op' n = o) (h1 : 29 ≤ o) (h2 : o ≤ 30) (e3 : ∀ j, j < m → pl' j = pl j) (e4 : ∀ j, j < m → pa' j = pa j) (ep : pl' m = o) (ea : pa' m = n) : ps_ok op' ar' pl' pa' s (n + 1) (m + 1) 0 := by
  obtain ⟨D, d1, d2, d3, d4⟩ := h
  have bn := d1 n hs (Nat.le_refl n)
  have c0 := ps_c0 pl m
  refine ⟨fun k => if k ≤ n then D k else ps_c pl m, fun k h0 hk => ?_, fun k h0 hk => ?_, ?_, fun j hj p1 p2 => ?_⟩
  · by_cases c : k ≤ n
    · dsimp only
      rw [if_pos c]
      exact d1 k h0 c
    · dsimp only
      rw [if_neg c]
      have : k = n + 1 := by omega
      subst this
      omega
  · by_cases c : k < n
    · obtain ⟨q0, q1, q2, q3, q4⟩ := d2 k h0 c
      unfold ps_k
      dsimp only
      rw [if_pos (show k + 1 ≤ n by omega), if_pos (show k ≤ n by omega), e1 k c, e2 k c]
      refine ⟨q0, q1, q2, q3, fun h3 => ?_⟩
      obtain ⟨r1, r2, r3⟩ := q4 h3
      refine ⟨r1, r2, ?_⟩
      rcases r3 with ⟨r3, r4, r5⟩ | ⟨j, hj, p1, p2, ej⟩
      · refine Or.inl ⟨r3, by omega, ?_⟩
        rw [if_pos (by omega)]
        exact r5
      · exact Or.inr ⟨j, by omega, by rw [e3 j hj]; exact p1, by rw [e3 j hj]; exact p2, by rw [e4 j hj]; exact ej⟩
    · have : k = n := by omega
      subst this
      unfold ps_k
      dsimp only
      rw [if_neg (show ¬ k + 1 ≤ k by omega), if_pos (Nat.le_refl k), eo]
      refine ⟨by omega, fun _ => by omega, fun _ _ => by omega, fun _ => by omega, fun _ => ⟨by omega, by omega, Or.inr ⟨m, by omega, by omega, by omega, ea⟩⟩⟩
  · dsimp only
    rw [if_neg (by omega)]
    show ps_c pl m = 0 + (ps_c pl' m + ps_b (pl' m))
    rw [ps_ce e3, ep, ps_b0 (by omega)]
    omega
  · by_cases e : j = m
    · subst e
      rw [ea]
      refine ⟨by omega, by omega, ?_⟩
      dsimp only
      rw [if_pos (by omega), show ((n : Int)).toNat = n by omega, ps_ce e3]
      exact d3
    · have hj : j < m := by omega
      rw [e3 j hj] at p1 p2
      obtain ⟨r1, r2, r3⟩ := d4 j hj p1 p2
      rw [e4 j hj, ps_ce (fun i hi => e3 i (by omega))]
      refine ⟨r1, by omega, ?_⟩
      dsimp only
      rw [if_pos (by omega)]
      exact r3
end PSA
