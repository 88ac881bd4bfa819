/-! THE FIRST HEAP is typed: a check over the evaluator's heap -/
section STA
theorem sx_SX (L : Nat) (xs : Nat → Int32) : ty_SX (pm_sX L xs) := by
  refine ⟨rfl, fun k hk => ?_⟩
  unfold pm_sX
  have e1 : (100 + k == 200) = false := beq_false_of_ne (by omega)
  have e2 : (100 + k == 201) = false := beq_false_of_ne (by omega)
  rw [e1, e2, decide_eq_true (show 100 ≤ 100 + k by omega), decide_eq_true (show 100 + k < 123 by omega), show 100 + k - 100 = k by omega]
  rfl
theorem sx_S (L : Nat) (xs : Nat → Int32) (h : pm_H) : pm_arr (pm_sX L xs) h (.retAddr 200) = some (0, L, .inl xs) := rfl
theorem bz0 {p q : Int × Int} {c : Bool} (hp : p.1 ≤ 0 ∧ 0 ≤ p.2) (hq : q.1 ≤ 0 ∧ 0 ≤ q.2) : (bif c then p else q).1 ≤ 0 ∧ 0 ≤ (bif c then p else q).2 := by
  cases c
  · exact hq
  · exact hp
theorem tf0 (a k : Nat) : (ty_f a k).1 ≤ 0 ∧ 0 ≤ (ty_f a k).2 := by
  unfold ty_f ty_tk ty_mk
  repeat' (first | decide | refine bz0 ?_ ?_)
theorem ta0 (a j : Nat) : (ty_a a j).1 ≤ 0 ∧ 0 ≤ (ty_a a j).2 := by
  unfold ty_a ty_sb ty_rb
  repeat' (first | decide | refine bz0 ?_ ?_)
theorem dv0 (xs : Nat → Int32) (p : Nat) : ev_dV xs (0, p) = .int (Int32.ofNat p) := rfl
theorem dv1 (xs : Nat → Int32) (p : Nat) : ev_dV xs (1, p) = .long (Int64.ofNat p) := rfl
theorem dv2 (xs : Nat → Int32) (p : Nat) : ev_dV xs (2, p) = .ref p := rfl
def sk_k (f1 f2 v1 v2 : Nat) : Bool := match f1 with
  | 0 => v1 == 0
  | 1 => v1 == 0 && (v2 == 0 || v2 == 1)
  | 2 => v1 == 1
  | 3 => v1 == 2 && v2 == f2
  | 4 => v1 == 2 && (v2 == 1 || v2 == 12)
  | 5 => v1 == 2 && (v2 == 58 || v2 == 60)
  | _ => false
def sk_i (v : ev_V) : Int := bif v.1 == 0 then (Int32.ofNat v.2).toInt else 0
def sk_l (v : ev_V) : Int := bif v.1 == 1 then (Int64.ofNat v.2).toInt else 0
theorem sk_fd {xs : Nat → Int32} {f1 f2 v1 v2 : Nat} (h : sk_k f1 f2 v1 v2 = true) : hs_fd (f1, f2) (ev_dV xs (v1, v2)) ∧ (v1 = 0 ∨ v1 = 1 ∨ v1 = 2) := by
  match f1, h with
  | 0, h =>
    obtain rfl := eq_of_beq h
    exact ⟨⟨_, dv0 xs v2⟩, Or.inl rfl⟩
  | 1, h =>
    obtain ⟨h1, h2⟩ := Bool.and_eq_true_iff.mp h
    obtain rfl := eq_of_beq h1
    refine ⟨?_, Or.inl rfl⟩
    rcases Bool.or_eq_true_iff.mp h2 with q | q
    · obtain rfl := eq_of_beq q
      exact Or.inl rfl
    · obtain rfl := eq_of_beq q
      exact Or.inr rfl
  | 2, h =>
    obtain rfl := eq_of_beq h
    exact ⟨⟨_, dv1 xs v2⟩, Or.inr (Or.inl rfl)⟩
  | 3, h =>
    obtain ⟨h1, h2⟩ := Bool.and_eq_true_iff.mp h
    obtain rfl := eq_of_beq h1
    obtain rfl := eq_of_beq h2
    exact ⟨rfl, Or.inr (Or.inr rfl)⟩
  | 4, h =>
    obtain ⟨h1, h2⟩ := Bool.and_eq_true_iff.mp h
    obtain rfl := eq_of_beq h1
    refine ⟨?_, Or.inr (Or.inr rfl)⟩
    rcases Bool.or_eq_true_iff.mp h2 with q | q
    · obtain rfl := eq_of_beq q
      exact Or.inl rfl
    · obtain rfl := eq_of_beq q
      exact Or.inr rfl
  | 5, h =>
    obtain ⟨h1, h2⟩ := Bool.and_eq_true_iff.mp h
    obtain rfl := eq_of_beq h1
    refine ⟨?_, Or.inr (Or.inr rfl)⟩
    rcases Bool.or_eq_true_iff.mp h2 with q | q
    · obtain rfl := eq_of_beq q
      exact Or.inl rfl
    · obtain rfl := eq_of_beq q
      exact Or.inr rfl
  | f1 + 6, h => cases h
theorem sk_iv {xs : Nat → Int32} {v1 v2 : Nat} (h : v1 = 0 ∨ v1 = 1 ∨ v1 = 2) : (match ev_dV xs (v1, v2) with | .int x => x | _ => 0 : Int32).toInt = sk_i (v1, v2) ∧ (match ev_dV xs (v1, v2) with | .long x => x | _ => 0 : Int64).toInt = sk_l (v1, v2) := by
  rcases h with rfl | rfl | rfl
  · exact ⟨rfl, rfl⟩
  · exact ⟨rfl, rfl⟩
  · exact ⟨rfl, rfl⟩
def sk_b (lo hi x : Int) : Bool := decide (lo ≤ x) && decide (x ≤ hi)
theorem sk_bo {lo hi x : Int} (h : sk_b lo hi x = true) : lo ≤ x ∧ x ≤ hi := by
  obtain ⟨h1, h2⟩ := Bool.and_eq_true_iff.mp h
  exact ⟨of_decide_eq_true h1, of_decide_eq_true h2⟩
/-- each of the first n, by halves -/
noncomputable def sk_bin (n : Nat) (f : Nat → Bool) (k : Nat) : Nat → Bool := Nat.rec (motive := fun _ => Nat → Bool) (fun lo => Nat.ble n lo || f lo) (fun k ih lo => Nat.ble n lo || (ih lo && ev_fK (Nat.add lo (Nat.pow 2 k)) ih)) k
theorem sk_bin_ok {n : Nat} {f : Nat → Bool} : ∀ (k lo : Nat), sk_bin n f k lo = true → ∀ j, lo ≤ j → j < lo + 2 ^ k → j < n → f j = true := by
  intro k
  induction k with
  | zero =>
    intro lo h j h1 h2 h3
    have h : (Nat.ble n lo || f lo) = true := h
    have h2 : j < lo + 1 := h2
    have e : j = lo := by omega
    subst e
    rcases Bool.or_eq_true_iff.mp h with q | q
    · have := Nat.le_of_ble_eq_true q
      omega
    · exact q
  | succ k ih =>
    intro lo h j h1 h2 h3
    have h : (Nat.ble n lo || (sk_bin n f k lo && ev_fK (Nat.add lo (Nat.pow 2 k)) (sk_bin n f k))) = true := h
    rcases Bool.or_eq_true_iff.mp h with q | q
    · have := Nat.le_of_ble_eq_true q
      omega
    · obtain ⟨q1, q2⟩ := Bool.and_eq_true_iff.mp q
      rw [ev_fK_eq] at q2
      have h2 : j < lo + 2 ^ k * 2 := h2
      by_cases c : j < lo + 2 ^ k
      · exact ih lo q1 j h1 c h3
      · exact ih (lo + 2 ^ k) q2 j (by omega) (by omega) h3
noncomputable def sk_c (a : Nat) (c : ev_C) : Bool := match c with
  | .inl (t, n, N, ov) => t == (hs_sh a).1 && n == (hs_sh a).2.1 && ov.isEmpty && Nat.ble n 16384 && (Nat.beq N 0 || sk_bin n (fun j => sk_b (ty_a a j).1 (ty_a a j).2 (bif t == 0 || t == 2 then (Int32.ofNat (ev_ln N j)).toInt else 0)) 14 0)
  | .inr (ci, fs) => (10 + ci == (hs_sh a).1) && (hs_sh a).2.1 == 0 && fs.length == (hs_sh a).2.2.length && (List.range fs.length).all (fun k => sk_k ((hs_sh a).2.2.getD k (9, 0)).1 ((hs_sh a).2.2.getD k (9, 0)).2 (fs.getD k (3, 0)).1 (fs.getD k (3, 0)).2 && sk_b (ty_f a k).1 (ty_f a k).2 (sk_i (fs.getD k (3, 0))) && sk_b (ty_l a k).1 (ty_l a k).2 (sk_l (fs.getD k (3, 0))))
end STA
