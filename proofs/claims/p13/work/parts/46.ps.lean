/-! THE MODEL'S PARSER, as numbers: code op, ar on [s, n), pile pl, pa of m, v = 1 behind a value -/
section PSX
def ps_b (x : Int) : Int := if 20 ≤ x ∧ x < 28 then 1 else 0
def ps_c (pl : Nat → Int) : Nat → Int
  | 0 => 0
  | m + 1 => ps_c pl m + ps_b (pl m)
theorem ps_c0 (pl : Nat → Int) (m : Nat) : 0 ≤ ps_c pl m := by
  induction m with
  | zero => exact Int.le_refl _
  | succ m ih =>
    show 0 ≤ ps_c pl m + ps_b (pl m)
    unfold ps_b
    split <;> omega
theorem ps_ce {pl pl' : Nat → Int} {m : Nat} (h : ∀ j, j < m → pl' j = pl j) : ps_c pl' m = ps_c pl m := by
  induction m with
  | zero => rfl
  | succ m ih =>
    show ps_c pl' m + ps_b (pl' m) = ps_c pl m + ps_b (pl m)
    rw [ih (fun j hj => h j (by omega)), h m (by omega)]
/-- the code at k is right -/
def ps_k (op ar pl pa D : Nat → Int) (n m k : Nat) : Prop := 0 ≤ op k ∧ (op k < 20 → op k ≤ 12 ∧ D (k + 1) = D k + 1) ∧ (20 ≤ op k → op k < 28 → 2 ≤ D k ∧ D (k + 1) = D k - 1) ∧ (op k = 28 → 1 ≤ D k ∧ D (k + 1) = D k) ∧ (29 ≤ op k → 1 ≤ D k ∧ D (k + 1) = D k - 1 ∧ ((k < ar k ∧ ar k ≤ n ∧ D (ar k).toNat = D k) ∨ ∃ j, j < m ∧ 29 ≤ pl j ∧ pl j ≤ 30 ∧ pa j = k))
def ps_ok (op ar pl pa : Nat → Int) (s n m : Nat) (v : Int) : Prop := ∃ D : Nat → Int, (∀ k : Nat, s ≤ k → k ≤ n → 0 ≤ D k ∧ D k ≤ (k : Int) - s) ∧ (∀ k, s ≤ k → k < n → ps_k op ar pl pa D n m k) ∧ D n = v + ps_c pl m ∧ ∀ j, j < m → 29 ≤ pl j → pl j ≤ 30 → (s : Int) ≤ pa j ∧ pa j < n ∧ D (pa j).toNat = 1 + ps_c pl j
/-- nothing is piled: it is a sum's or a test's code -/
theorem ps_cw {op ar pl pa : Nat → Int} {s n : Nat} {v : Int} (h : ps_ok op ar pl pa s n 0 v) : ty_cw op ar s n := by
  obtain ⟨D, d1, d2, d3, d4⟩ := h
  refine ⟨D, fun k h0 h1 => ?_⟩
  have b := d1 k (by omega) (by omega)
  refine ⟨b.1, b.2, fun h2 => ?_⟩
  obtain ⟨q0, q1, q2, q3, q4⟩ := d2 k (by omega) (by omega)
  refine ⟨q0, q1, q2, q3, fun h3 => ?_⟩
  obtain ⟨r1, r2, r3⟩ := q4 h3
  rcases r3 with ⟨r3, r4, r5⟩ | ⟨j, hj, _⟩
  · exact ⟨r1, r2, r3, r4, r5⟩
  · omega
/-- what is pushed and is neither AND nor OR -/
theorem ps_push {op ar pl pa pl' pa' : Nat → Int} {s n m : Nat} {v w o : Int} (h : ps_ok op ar pl pa s n m v) (e1 : ∀ j, j < m → pl' j = pl j) (e2 : ∀ j, j < m → pa' j = pa j) (eo : pl' m = o) (ho : o < 29 ∨ 30 < o) (hv : v = w + ps_b o) : ps_ok op ar pl' pa' s n (m + 1) w := by
  obtain ⟨D, d1, d2, d3, d4⟩ := h
  refine ⟨D, d1, fun k h0 h1 => ?_, ?_, fun j hj p1 p2 => ?_⟩
  · obtain ⟨q0, q1, q2, q3, q4⟩ := d2 k h0 h1
    refine ⟨q0, q1, q2, q3, fun h3 => ?_⟩
    obtain ⟨r1, r2, r3⟩ := q4 h3
    refine ⟨r1, r2, ?_⟩
    rcases r3 with r3 | ⟨j, hj, p1, p2, ej⟩
    · exact Or.inl r3
    · exact Or.inr ⟨j, by omega, by rw [e1 j hj]; exact p1, by rw [e1 j hj]; exact p2, by rw [e2 j hj]; exact ej⟩
  · show D n = w + (ps_c pl' m + ps_b (pl' m))
    rw [ps_ce e1, eo]
    omega
  · by_cases e : j = m
    · subst e
      rw [eo] at p1 p2
      omega
    · have hj : j < m := by omega
      rw [e1 j hj] at p1 p2
      rw [e2 j hj, ps_ce (fun i hi => e1 i (by omega))]
      exact d4 j hj p1 p2
end PSX
