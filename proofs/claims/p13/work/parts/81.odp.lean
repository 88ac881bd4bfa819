/-! ORDERS, as they are read -/
section ODP
def od1 (A7 A8 A9 : Nat → Int32) (n : Int) (c : Nat) : Prop := lw1 A7 A8 A9 n (8 * c + 1) (8 * c + 2) ∧ lw1 A7 A8 A9 n (8 * c + 3) (8 * c + 4) ∧ lw1 A7 A8 A9 n (8 * c + 5) (8 * c + 6) ∧ 0 ≤ pt A7 (8 * c + 7) ∧ pt A7 (8 * c + 7) ≤ 20
def odp (A7 A8 A9 : Nat → Int32) (nc n : Int) : Prop := ∀ c : Nat, (c : Int) < nc → od1 A7 A8 A9 n c
theorem od1_cong {A7 A8 A9 A7' A8' A9' : Nat → Int32} {n n' : Int} {c : Nat} (h : od1 A7 A8 A9 n c) (e7 : ∀ m, m < 8 → pt A7' (8 * c + m) = pt A7 (8 * c + m)) (e1 : ∀ k : Nat, (k : Int) < n → pt A8' k = pt A8 k ∧ pt A9' k = pt A9 k) (hn : n ≤ n') : od1 A7' A8' A9' n' c := by
  obtain ⟨h1, h2, h3, h4, h5⟩ := h
  refine ⟨lw1_cong h1 (e7 1 (by omega)) (e7 2 (by omega)) e1 hn, lw1_cong h2 (e7 3 (by omega)) (e7 4 (by omega)) e1 hn, lw1_cong h3 (e7 5 (by omega)) (e7 6 (by omega)) e1 hn, ?_, ?_⟩
  · rw [e7 7 (by omega)]; exact h4
  · rw [e7 7 (by omega)]; exact h5
theorem odp_s {A7 A8 A9 A7' A8' A9' : Nat → Int32} {nc nc' n n' : Int} {c : Nat} (h : odp A7 A8 A9 nc n) (hc : (c : Int) = nc) (e7 : ∀ j, j < 8 * c → pt A7' j = pt A7 j) (e1 : ∀ k : Nat, (k : Int) < n → pt A8' k = pt A8 k ∧ pt A9' k = pt A9 k) (hn : n ≤ n') (hc' : nc' = nc + 1) (h1 : od1 A7' A8' A9' n' c) : odp A7' A8' A9' nc' n' := by
  intro d hd
  by_cases e : d = c
  · subst e
    exact h1
  · exact od1_cong (h d (by omega)) (fun m hm => e7 _ (by omega)) e1 hn
theorem odp_0 {A7 A8 A9 : Nat → Int32} {nc n : Int} (h : nc = 0) : odp A7 A8 A9 nc n := fun c hc => by omega
theorem odp_e {A7 A8 A9 A7' A8' A9' : Nat → Int32} {nc nc' n n' : Int} (h : odp A7 A8 A9 nc n) (e7 : A7' = A7) (e8 : A8' = A8) (e9 : A9' = A9) (ec : nc' = nc) (en : n' = n) : odp A7' A8' A9' nc' n' := by
  rw [e7, e8, e9, ec, en]
  exact h
/-- the order that is being read -/
def ro (B7 B8 B9 : Nat → Int32) (c : Nat) (N0 : Int) (g : Prop) (A7 A8 A9 : Nat → Int32) (n : Int) : Prop := N0 ≤ n ∧ (∀ j, j < 8 * c → pt A7 j = pt B7 j) ∧ (g → (∀ k : Nat, (k : Int) < N0 → pt A8 k = pt B8 k ∧ pt A9 k = pt B9 k) ∧ od1 A7 A8 A9 n c)
theorem ro_0 {B7 B8 B9 A7 : Nat → Int32} {c : Nat} {N0 n : Int} {g : Prop} (hn : n = N0) (h0 : 0 ≤ n) (e7 : ∀ j, j < 8 * c → pt A7 j = pt B7 j) (z : ∀ m, 1 ≤ m → m < 8 → pt A7 (8 * c + m) = 0) : ro B7 B8 B9 c N0 g A7 B8 B9 n := by
  have l : ∀ a b, 1 ≤ a → a < 8 → 1 ≤ b → b < 8 → lw1 A7 B8 B9 n (8 * c + a) (8 * c + b) := fun a b a0 a1 b0 b1 => lw1_m (z a a0 a1) (z b b0 b1) (by omega) (by omega) h0 (cw_nil rfl)
  exact ⟨by omega, e7, fun _ => ⟨fun k _ => ⟨rfl, rfl⟩, l 1 2 (by omega) (by omega) (by omega) (by omega), l 3 4 (by omega) (by omega) (by omega) (by omega), l 5 6 (by omega) (by omega) (by omega) (by omega), by rw [z 7 (by omega) (by omega)]; omega, by rw [z 7 (by omega) (by omega)]; omega⟩⟩
theorem ro_g {B7 B8 B9 A7 A8 A9 A7' A8' A9' : Nat → Int32} {c : Nat} {N0 n n' : Int} {g g' : Prop} (h : ro B7 B8 B9 c N0 g A7 A8 A9 n) (hg : g' → g) (e7 : A7' = A7) (e8 : A8' = A8) (e9 : A9' = A9) (en : n' = n) : ro B7 B8 B9 c N0 g' A7' A8' A9' n' := by
  rw [e7, e8, e9, en]
  exact ⟨h.1, h.2.1, fun q => h.2.2 (hg q)⟩
/-- one of its sums is read: at i, i + 1 -/
theorem ro_sum {B7 B8 B9 A7 A8 A9 A8' A9' : Nat → Int32} {c i j : Nat} {N0 n n' : Int} {g g' : Prop} {x y : Int32} (h : ro B7 B8 B9 c N0 g A7 A8 A9 n) (hi : i = 8 * c + 1 ∨ i = 8 * c + 3 ∨ i = 8 * c + 5) (hj : j = i + 1) (hx : x.toInt = n) (hy : y.toInt = n') (h0 : 0 ≤ n) (hn : n ≤ n') (hg : g' → g ∧ ty_cw (pt A8') (pt A9') n n' ∧ ∀ k : Nat, (k : Int) < n → pt A8' k = pt A8 k ∧ pt A9' k = pt A9 k) : ro B7 B8 B9 c N0 g' (upd (upd A7 i x) j y) A8' A9' n' := by
  obtain ⟨h1, h2, h3⟩ := h
  subst hj
  have ne : ∀ k, k ≠ i → k ≠ i + 1 → pt (upd (upd A7 i x) (i + 1) y) k = pt A7 k := fun k k1 k2 => by rw [pt_ne k2, pt_ne k1]
  have ei : pt (upd (upd A7 i x) (i + 1) y) i = n := by rw [pt_ne (by omega), pt_eq]; exact hx
  have ej : pt (upd (upd A7 i x) (i + 1) y) (i + 1) = n' := by rw [pt_eq]; exact hy
  refine ⟨by omega, fun k hk => by rw [ne k (by omega) (by omega)]; exact h2 k hk, fun q => ?_⟩
  obtain ⟨q1, q2, q3⟩ := hg q
  obtain ⟨p1, p2, p3, p4, p5, p6⟩ := h3 q1
  have this_ : lw1 (upd (upd A7 i x) (i + 1) y) A8' A9' n' i (i + 1) := lw1_m ei ej h0 hn (Int.le_refl _) q2
  refine ⟨fun k hk => by rw [(q3 k (by omega)).1, (q3 k (by omega)).2]; exact p1 k hk, ?_⟩
  have o : ∀ a b, lw1 A7 A8 A9 n a b → a ≠ i → a ≠ i + 1 → b ≠ i → b ≠ i + 1 → lw1 (upd (upd A7 i x) (i + 1) y) A8' A9' n' a b := fun a b l a1 a2 b1 b2 => lw1_cong l (ne a a1 a2) (ne b b1 b2) q3 hn
  have e7 : pt (upd (upd A7 i x) (i + 1) y) (8 * c + 7) = pt A7 (8 * c + 7) := ne _ (by omega) (by omega)
  refine ⟨?_, ?_, ?_, by rw [e7]; exact p5, by rw [e7]; exact p6⟩
  · by_cases e : i = 8 * c + 1
    · subst e; exact this_
    · exact o _ _ p2 (by omega) (by omega) (by omega) (by omega)
  · by_cases e : i = 8 * c + 3
    · subst e; exact this_
    · exact o _ _ p3 (by omega) (by omega) (by omega) (by omega)
  · by_cases e : i = 8 * c + 5
    · subst e; exact this_
    · exact o _ _ p4 (by omega) (by omega) (by omega) (by omega)
/-- how often; what it is -/
theorem ro_w {B7 B8 B9 A7 A8 A9 : Nat → Int32} {c i : Nat} {N0 n : Int} {g g' : Prop} {x : Int32} (h : ro B7 B8 B9 c N0 g A7 A8 A9 n) (hg : g' → g) (hi : (i = 8 * c + 7 ∧ (g' → 0 ≤ x.toInt ∧ x.toInt ≤ 20)) ∨ i = 8 * c) : ro B7 B8 B9 c N0 g' (upd A7 i x) A8 A9 n := by
  obtain ⟨h1, h2, h3⟩ := h
  refine ⟨h1, fun k hk => by rw [pt_ne (by omega)]; exact h2 k hk, fun q => ?_⟩
  obtain ⟨p1, p2, p3, p4, p5, p6⟩ := h3 (hg q)
  have e : ∀ k : Nat, (k : Int) < n → pt A8 k = pt A8 k ∧ pt A9 k = pt A9 k := fun k _ => ⟨rfl, rfl⟩
  refine ⟨p1, lw1_cong p2 (pt_ne (by omega)) (pt_ne (by omega)) e (Int.le_refl _), lw1_cong p3 (pt_ne (by omega)) (pt_ne (by omega)) e (Int.le_refl _), lw1_cong p4 (pt_ne (by omega)) (pt_ne (by omega)) e (Int.le_refl _), ?_⟩
  rcases hi with ⟨hi, hx⟩ | hi
  · subst hi
    rw [pt_eq]
    exact hx q
  · subst hi
    rw [pt_ne (by omega)]
    exact ⟨p5, p6⟩
end ODP
