/-! what the check tells of a cell -/
section FIR
theorem sk_and {a b : Bool} (h : (a && b) = true) : a = true ∧ b = true := Bool.and_eq_true_iff.mp h
theorem sk_all {n : Nat} {f : Nat → Bool} (h : (List.range n).all f = true) {k : Nat} (hk : k < n) : f k = true := List.all_eq_true.mp h k (List.mem_range.mpr hk)
theorem sk_obj {xs : Nat → Int32} {h : pm_H} {a ci : Nat} {fs : List ev_V} (hc : sk_c a (.inr (ci, fs)) = true) (e : h.2.2 a = .inr (ci, fs.map (ev_dV xs))) : hs_ok (hs_sh a) (h.2.2 a) ∧ (∀ k, (ty_f a k).1 ≤ (hs_fI h a k).toInt ∧ (hs_fI h a k).toInt ≤ (ty_f a k).2) ∧ (∀ k, (ty_l a k).1 ≤ (hs_fL h a k).toInt ∧ (hs_fL h a k).toInt ≤ (ty_l a k).2) ∧ ∀ j, j < (hs_sh a).2.1 → (ty_a a j).1 ≤ (hs_aI h a j).toInt ∧ (hs_aI h a j).toInt ≤ (ty_a a j).2 := by
  obtain ⟨h123, h4⟩ := sk_and hc
  obtain ⟨h12, h3⟩ := sk_and h123
  obtain ⟨h1, h2⟩ := sk_and h12
  have h1 : 10 + ci = (hs_sh a).1 := eq_of_beq h1
  have h2 : (hs_sh a).2.1 = 0 := eq_of_beq h2
  have h3 : fs.length = (hs_sh a).2.2.length := eq_of_beq h3
  have vs : hs_vs h a = fs.map (ev_dV xs) := by unfold hs_vs; rw [e]
  have key : ∀ k, k < fs.length → hs_fd ((hs_sh a).2.2.getD k (9, 0)) (ev_dV xs (fs.getD k (3, 0))) ∧ ((fs.getD k (3, 0)).1 = 0 ∨ (fs.getD k (3, 0)).1 = 1 ∨ (fs.getD k (3, 0)).1 = 2) ∧ ((ty_f a k).1 ≤ sk_i (fs.getD k (3, 0)) ∧ sk_i (fs.getD k (3, 0)) ≤ (ty_f a k).2) ∧ ((ty_l a k).1 ≤ sk_l (fs.getD k (3, 0)) ∧ sk_l (fs.getD k (3, 0)) ≤ (ty_l a k).2) := by
    intro k hk
    obtain ⟨q12, q3⟩ := sk_and (sk_all h4 hk)
    obtain ⟨q1, q2⟩ := sk_and q12
    have r := sk_fd (xs := xs) q1
    exact ⟨r.1, r.2, sk_bo q2, sk_bo q3⟩
  have fv : ∀ k, k < fs.length → hs_fV h a k = ev_dV xs (fs.getD k (3, 0)) := by
    intro k hk
    unfold hs_fV
    rw [vs, List.getD_eq_getElem?_getD, List.getElem?_map, List.getD_eq_getElem?_getD, List.getElem?_eq_getElem hk]
    rfl
  have fn : ∀ k, ¬ k < fs.length → hs_fV h a k = .null := by
    intro k hk
    unfold hs_fV
    rw [vs, List.getD_eq_getElem?_getD, List.getElem?_eq_none (by rw [List.length_map]; omega)]
    rfl
  refine ⟨?_, fun k => ?_, fun k => ?_, fun j hj => by omega⟩
  · rw [e]
    refine ⟨h1, by rw [List.length_map]; exact h3, fun k f v hf hv => ?_⟩
    have hk : k < fs.length := by rw [h3]; exact (List.getElem?_eq_some_iff.mp hf).1
    have r := (key k hk).1
    rw [List.getD_eq_getElem?_getD, hf] at r
    rw [List.getElem?_map, List.getElem?_eq_getElem hk] at hv
    rw [List.getD_eq_getElem?_getD, List.getElem?_eq_getElem hk] at r
    have hv : some (ev_dV xs fs[k]) = some v := hv
    cases hv
    exact r
  · by_cases hk : k < fs.length
    · obtain ⟨r1, r2, r3, r4⟩ := key k hk
      have q := (sk_iv (xs := xs) (v2 := (fs.getD k (3, 0)).2) r2).1
      have e2 : (hs_fI h a k).toInt = sk_i (fs.getD k (3, 0)) := by
        unfold hs_fI
        rw [fv k hk]
        exact q
      rw [e2]
      exact r3
    · have e2 : hs_fI h a k = 0 := by
        unfold hs_fI
        rw [fn k hk]
      rw [e2]
      exact tf0 a k
  · by_cases hk : k < fs.length
    · obtain ⟨r1, r2, r3, r4⟩ := key k hk
      have q := (sk_iv (xs := xs) (v2 := (fs.getD k (3, 0)).2) r2).2
      have e2 : (hs_fL h a k).toInt = sk_l (fs.getD k (3, 0)) := by
        unfold hs_fL
        rw [fv k hk]
        exact q
      rw [e2]
      exact r4
    · have e2 : hs_fL h a k = 0 := by
        unfold hs_fL
        rw [fn k hk]
      rw [e2]
      exact tb_l0 a k
theorem sk_arr {xs : Nat → Int32} {h : pm_H} {a t n N : Nat} {ov : List (Nat × Nat)} (hc : sk_c a (.inl (t, n, N, ov)) = true) (r : ev_RC xs (.inl (t, n, N, ov)) (h.2.2 a)) : hs_ok (hs_sh a) (h.2.2 a) ∧ (∀ k, (ty_f a k).1 ≤ (hs_fI h a k).toInt ∧ (hs_fI h a k).toInt ≤ (ty_f a k).2) ∧ (∀ k, (ty_l a k).1 ≤ (hs_fL h a k).toInt ∧ (hs_fL h a k).toInt ≤ (ty_l a k).2) ∧ (∀ j, j < (hs_sh a).2.1 → (ty_a a j).1 ≤ (hs_aI h a j).toInt ∧ (hs_aI h a j).toInt ≤ (ty_a a j).2) := by
  obtain ⟨h1234, h5⟩ := sk_and hc
  obtain ⟨h123, h4⟩ := sk_and h1234
  obtain ⟨h12, h3⟩ := sk_and h123
  obtain ⟨h1, h2⟩ := sk_and h12
  have h1 : t = (hs_sh a).1 := eq_of_beq h1
  have h2 : n = (hs_sh a).2.1 := eq_of_beq h2
  have h3 : ov = [] := List.isEmpty_iff.mp h3
  subst h3
  obtain ⟨x, e, ra⟩ := r
  have v1 : hs_vs h a = [] := by unfold hs_vs; rw [e]
  refine ⟨?_, fun k => ?_, fun k => ?_, fun j hj => ?_⟩
  · rw [e]
    refine ⟨h1, h2, ?_⟩
    match x, ra with
    | .inl f, ra =>
      rcases ra.1 with rfl | rfl
      · exact ⟨f, rfl⟩
      · exact ⟨f, rfl⟩
    | .inr (.inl f), ra =>
      obtain ⟨rfl, _⟩ := ra
      exact ⟨f, rfl⟩
    | .inr (.inr (.inr (.inr f))), ra =>
      rcases ra.1 with rfl | rfl
      · exact ⟨f, rfl⟩
      · exact ⟨f, rfl⟩
    | .inr (.inr (.inl f)), ra => exact ra.elim
    | .inr (.inr (.inr (.inl f))), ra => exact ra.elim
  · have e2 : hs_fI h a k = 0 := by unfold hs_fI hs_fV; rw [v1]; rfl
    rw [e2]
    exact tf0 a k
  · have e2 : hs_fL h a k = 0 := by unfold hs_fL hs_fV; rw [v1]; rfl
    rw [e2]
    exact tb_l0 a k
  · have hn : n ≤ 16384 := ev_le h4
    have q : (ty_a a j).1 ≤ (bif t == 0 || t == 2 then (Int32.ofNat (ev_ln N j)).toInt else 0) ∧ (bif t == 0 || t == 2 then (Int32.ofNat (ev_ln N j)).toInt else 0) ≤ (ty_a a j).2 := by
      rcases Bool.or_eq_true_iff.mp h5 with q | q
      · have e0 : (bif t == 0 || t == 2 then (Int32.ofNat (ev_ln N j)).toInt else 0) = 0 := by
          rw [ev_be q, ev_ln_0]
          cases (t == 0 || t == 2) <;> rfl
        rw [e0]
        exact ta0 a j
      · exact sk_bo (sk_bin_ok 14 0 q j (Nat.zero_le j) (by omega) (by omega))
    match x, ra, e with
    | .inl f, ra, e =>
      have e2 : hs_aI h a j = Int32.ofNat (ev_ln N j) := by
        unfold hs_aI
        rw [e]
        exact ra.2 j (by omega)
      have e3 : (t == 0 || t == 2) = true := by rcases ra.1 with rfl | rfl <;> rfl
      rw [e3] at q
      rw [e2]
      exact q
    | .inr (.inl f), ra, e =>
      have e2 : hs_aI h a j = 0 := by unfold hs_aI; rw [e]
      obtain ⟨rfl, _⟩ := ra
      rw [e2]
      exact q
    | .inr (.inr (.inr (.inr f))), ra, e =>
      have e2 : hs_aI h a j = 0 := by unfold hs_aI; rw [e]
      have e3 : (t == 0 || t == 2) = false := by rcases ra.1 with rfl | rfl <;> rfl
      rw [e3] at q
      rw [e2]
      exact q
    | .inr (.inr (.inl f)), ra, e => exact ra.elim
    | .inr (.inr (.inr (.inl f))), ra, e => exact ra.elim
end FIR
