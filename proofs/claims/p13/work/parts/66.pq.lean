/-! THE MODEL'S PARSER: what holds between its steps -/
section PQX
def ps_bd (x : Int) : Int := if 31 ≤ x then 0 else if x = 30 then 1 else if x = 29 then 2 else if x = 28 then 3 else if 25 ≤ x then 4 else if 22 ≤ x then 6 else 5
def ps_o (pl : Nat → Int) : Nat → Int
  | 0 => 0
  | m + 1 => ps_o pl m + (if 31 ≤ pl m then 1 else 0)
theorem ps_oe {pl pl' : Nat → Int} {m : Nat} (h : ∀ j, j < m → pl' j = pl j) : ps_o pl' m = ps_o pl m := by
  induction m with
  | zero => rfl
  | succ m ih =>
    show ps_o pl' m + (if 31 ≤ pl' m then 1 else 0) = ps_o pl m + (if 31 ≤ pl m then 1 else 0)
    rw [ih (fun j hj => h j (by omega)), h m (by omega)]
theorem ps_o0 (pl : Nat → Int) (m : Nat) : 0 ≤ ps_o pl m := by
  induction m with
  | zero => exact Int.le_refl _
  | succ m ih =>
    show 0 ≤ ps_o pl m + (if 31 ≤ pl m then 1 else 0)
    split <;> omega
theorem ps_oz {pl : Nat → Int} {m : Nat} (h : ps_o pl m = 0) : ∀ j, j < m → pl j < 31 := by
  induction m with
  | zero => intro j hj; omega
  | succ m ih =>
    have h : ps_o pl m + (if 31 ≤ pl m then 1 else 0) = 0 := h
    have q := ps_o0 pl m
    intro j hj
    by_cases c : 31 ≤ pl m
    · rw [if_pos c] at h
      omega
    · rw [if_neg c] at h
      by_cases e : j = m
      · subst e; omega
      · exact ih (by omega) j (by omega)
theorem ps_oy {pl : Nat → Int} {m : Nat} (h : ∀ j, j < m → pl j < 31) : ps_o pl m = 0 := by
  induction m with
  | zero => rfl
  | succ m ih =>
    show ps_o pl m + (if 31 ≤ pl m then 1 else 0) = 0
    have := h m (by omega)
    rw [ih (fun j hj => h j (by omega)), if_neg (by omega)]
    rfl
/-- above a SQUARE: sums and SQUAREs alone -/
def ps_sq (pl : Nat → Int) (m : Nat) : Prop := ∀ b j, b < j → j < m → pl b = 32 → (20 ≤ pl j ∧ pl j ≤ 24) ∨ pl j = 32
def ps_ns (pl : Nat → Int) (m : Nat) : Prop := ∀ j, j < m → pl j ≠ 32
def pt (A : Nat → Int32) : Nat → Int := fun k => (A k).toInt
def pq (g : Prop) (A8 A9 A0 A1 : Nat → Int32) (op0 ar0 : Nat → Int) (s : Nat) (n m o f v : Int) : Prop := 0 ≤ m ∧ (s : Int) ≤ n ∧ n + m ≤ f ∧ (∀ j : Nat, (j : Int) < m → 20 ≤ pt A0 j ∧ (29 ≤ pt A0 j → pt A0 j ≤ 30 → 0 ≤ pt A1 j ∧ pt A1 j < 400)) ∧ o = ps_o (pt A0) m.toNat ∧ ps_sq (pt A0) m.toNat ∧ (g → ps_ok (pt A8) (pt A9) (pt A0) (pt A1) s n.toNat m.toNat v ∧ ∀ k, k < s → pt A8 k = op0 k ∧ pt A9 k = ar0 k)
theorem pq_g {g g' : Prop} {A8 A9 A0 A1 : Nat → Int32} {op0 ar0 : Nat → Int} {s : Nat} {n m o f f' v v' : Int} (h : pq g A8 A9 A0 A1 op0 ar0 s n m o f v) (hg : g' → g ∧ v' = v) (hf : f ≤ f') : pq g' A8 A9 A0 A1 op0 ar0 s n m o f' v' := by
  obtain ⟨h1, h2, h3, h4, h5, h6, h7⟩ := h
  exact ⟨h1, h2, by omega, h4, h5, h6, fun q => by rw [(hg q).2]; exact h7 (hg q).1⟩
theorem pt_lt {A : Nat → Int32} {n j : Nat} {x : Int32} (h : j < n) : pt (upd A n x) j = pt A j := by
  unfold pt upd
  rw [if_neg (by omega)]
theorem pt_ne {A : Nat → Int32} {n j : Nat} {x : Int32} (h : j ≠ n) : pt (upd A n x) j = pt A j := by
  unfold pt upd
  rw [if_neg h]
theorem pt_eq {A : Nat → Int32} {n : Nat} {x : Int32} : pt (upd A n x) n = x.toInt := by
  unfold pt upd
  rw [if_pos rfl]
theorem ps_sqe {pl pl' : Nat → Int} {m : Nat} (h : ∀ j, j < m → pl' j = pl j) (q : ps_sq pl m) : ps_sq pl' m := by
  intro b j hb hj e
  rw [h b (by omega)] at e
  rw [h j hj]
  exact q b j hb hj e
/-- pushed: neither AND nor OR -/
theorem pq_push {g : Prop} {A8 A9 A0 A1 : Nat → Int32} {op0 ar0 : Nat → Int} {s : Nat} {n m o o' f f' v w : Int} {x y : Int32} (h : pq g A8 A9 A0 A1 op0 ar0 s n m o f v) (hx : x.toInt < 29 ∨ 30 < x.toInt) (x20 : 20 ≤ x.toInt) (hv : g → v = w + ps_b x.toInt) (hf : f + 1 ≤ f') (ho : o' = o + (if 31 ≤ x.toInt then 1 else 0)) (hs : (20 ≤ x.toInt ∧ x.toInt ≤ 24) ∨ x.toInt = 32 ∨ ps_ns (pt A0) m.toNat) : pq g A8 A9 (upd A0 m.toNat x) (upd A1 m.toNat y) op0 ar0 s n (m + 1) o' f' w := by
  obtain ⟨h1, h2, h3, h4, h5, h6, h7⟩ := h
  have em : (m + 1).toNat = m.toNat + 1 := by omega
  have e1 : ∀ j, j < m.toNat → pt (upd A0 m.toNat x) j = pt A0 j := fun j hj => pt_lt hj
  have e2 : ∀ j, j < m.toNat → pt (upd A1 m.toNat y) j = pt A1 j := fun j hj => pt_lt hj
  refine ⟨by omega, h2, by omega, fun j hj => ?_, ?_, ?_, fun q => ?_⟩
  · by_cases e : j = m.toNat
    · subst e
      rw [pt_eq]
      exact ⟨x20, fun p1 p2 => by omega⟩
    · have hj' : j < m.toNat := by omega
      rw [e1 j hj', e2 j hj']
      exact h4 j (by omega)
  · rw [em]
    show o' = ps_o (pt (upd A0 m.toNat x)) m.toNat + (if 31 ≤ pt (upd A0 m.toNat x) m.toNat then 1 else 0)
    rw [ps_oe e1, pt_eq, ho, h5]
  · rw [em]
    intro b j hb hj e
    by_cases c : j = m.toNat
    · subst c
      rw [pt_eq]
      rw [e1 b hb] at e
      rcases hs with hs | hs | hs
      · exact Or.inl hs
      · exact Or.inr hs
      · exact absurd e (hs b hb)
    · have hj' : j < m.toNat := by omega
      rw [e1 b (by omega)] at e
      rw [e1 j hj']
      exact h6 b j hb hj' e
  · obtain ⟨p1, p2⟩ := h7 q
    refine ⟨?_, p2⟩
    rw [em]
    exact ps_push p1 e1 e2 pt_eq hx (hv q)
/-- a leaf -/
theorem pq_leaf {g : Prop} {A8 A9 A0 A1 : Nat → Int32} {op0 ar0 : Nat → Int} {s : Nat} {n m o f f' : Int} {x y : Int32} (h : pq g A8 A9 A0 A1 op0 ar0 s n m o f 0) (h0 : 0 ≤ x.toInt) (h12 : x.toInt ≤ 12) (hf : f + 1 ≤ f') : pq g (upd A8 n.toNat x) (upd A9 n.toNat y) A0 A1 op0 ar0 s (n + 1) m o f' 1 := by
  obtain ⟨h1, h2, h3, h4, h5, h6, h7⟩ := h
  have en : (n + 1).toNat = n.toNat + 1 := by omega
  refine ⟨h1, by omega, by omega, h4, h5, h6, fun q => ?_⟩
  obtain ⟨p1, p2⟩ := h7 q
  refine ⟨?_, fun k hk => ?_⟩
  · rw [en]
    exact ps_emit p1 (by omega) (fun k hk => pt_lt hk) (fun k hk => pt_lt hk) pt_eq (Or.inl rfl) (Or.inl ⟨h0, h12, by omega⟩)
  · rw [pt_lt (by omega), pt_lt (by omega)]
    exact p2 k hk
/-- the argument of what was emitted last -/
theorem ps_arg {op ar ar' pl pa : Nat → Int} {s n m : Nat} {v : Int} {k0 : Nat} (h : ps_ok op ar pl pa s n m v) (hk : op k0 < 29) (e : ∀ k, k ≠ k0 → ar' k = ar k) : ps_ok op ar' pl pa s n m v := by
  obtain ⟨D, d1, d2, d3, d4⟩ := h
  refine ⟨D, d1, fun k h0 h1 => ?_, d3, d4⟩
  obtain ⟨q0, q1, q2, q3, q4⟩ := d2 k h0 h1
  refine ⟨q0, q1, q2, q3, fun h3 => ?_⟩
  have ne : k ≠ k0 := fun c => by rw [c] at h3; omega
  rw [e k ne]
  exact q4 h3
theorem pq_arg {g : Prop} {A8 A9 A0 A1 : Nat → Int32} {op0 ar0 : Nat → Int} {s k0 : Nat} {n m o f v : Int} {y : Int32} (h : pq g A8 A9 A0 A1 op0 ar0 s n m o f v) (hk : s ≤ k0) (ho : pt A8 k0 < 29) : pq g A8 (upd A9 k0 y) A0 A1 op0 ar0 s n m o f v := by
  obtain ⟨h1, h2, h3, h4, h5, h6, h7⟩ := h
  refine ⟨h1, h2, h3, h4, h5, h6, fun q => ?_⟩
  obtain ⟨p1, p2⟩ := h7 q
  exact ⟨ps_arg p1 ho (fun k hk => pt_ne hk), fun k hk' => by rw [pt_ne (by omega)]; exact p2 k hk'⟩
/-- AND, OR: piled and emitted -/
theorem pq_and {g : Prop} {A8 A9 A0 A1 : Nat → Int32} {op0 ar0 : Nat → Int} {s : Nat} {n m o f f' : Int} {x x' y z : Int32} (h : pq g A8 A9 A0 A1 op0 ar0 s n m o f 1) (x1 : 29 ≤ x.toInt) (x2 : x.toInt ≤ 30) (ex : x'.toInt = x.toInt) (hz : z.toInt = n) (hf : f + 2 ≤ f') (hn : n < 400) (hs : ps_ns (pt A0) m.toNat) : pq g (upd A8 n.toNat x') (upd A9 n.toNat y) (upd A0 m.toNat x) (upd A1 m.toNat z) op0 ar0 s (n + 1) (m + 1) o f' 0 := by
  obtain ⟨h1, h2, h3, h4, h5, h6, h7⟩ := h
  have em : (m + 1).toNat = m.toNat + 1 := by omega
  have en : (n + 1).toNat = n.toNat + 1 := by omega
  have e1 : ∀ j, j < m.toNat → pt (upd A0 m.toNat x) j = pt A0 j := fun j hj => pt_lt hj
  have e2 : ∀ j, j < m.toNat → pt (upd A1 m.toNat z) j = pt A1 j := fun j hj => pt_lt hj
  refine ⟨by omega, by omega, by omega, fun j hj => ?_, ?_, ?_, fun q => ?_⟩
  · by_cases e : j = m.toNat
    · subst e
      rw [pt_eq, pt_eq]
      exact ⟨by omega, fun _ _ => by omega⟩
    · have hj' : j < m.toNat := by omega
      rw [e1 j hj', e2 j hj']
      exact h4 j (by omega)
  · rw [em]
    show o = ps_o (pt (upd A0 m.toNat x)) m.toNat + (if 31 ≤ pt (upd A0 m.toNat x) m.toNat then 1 else 0)
    rw [ps_oe e1, pt_eq, if_neg (by omega), h5]
    omega
  · rw [em]
    intro b j hb hj e
    have eb : pt (upd A0 m.toNat x) b = pt A0 b := e1 b (by omega)
    rw [eb] at e
    exact absurd e (hs b (by omega))
  · obtain ⟨p1, p2⟩ := h7 q
    refine ⟨?_, fun k hk => ?_⟩
    · rw [em, en]
      exact ps_and p1 (by omega) (fun k hk => pt_lt hk) (fun k hk => pt_lt hk) pt_eq (by omega) (by omega) e1 e2 (by rw [pt_eq, ex]) (by rw [pt_eq, hz]; omega)
    · rw [pt_lt (by omega), pt_lt (by omega)]
      exact p2 k hk
/-- settling: one is taken off and emitted, or aimed -/
theorem pq_set {g : Prop} {A8 A9 A0 A1 : Nat → Int32} {op0 ar0 : Nat → Int} {s : Nat} {n m o f : Int} {x y : Int32} (h : pq g A8 A9 A0 A1 op0 ar0 s n m o f 1) (hm : 1 ≤ m) (ex : x.toInt = pt A0 (m - 1).toNat) (x1 : x.toInt < 29) : pq g (upd A8 n.toNat x) (upd A9 n.toNat y) A0 A1 op0 ar0 s (n + 1) (m - 1) o f 1 := by
  obtain ⟨h1, h2, h3, h4, h5, h6, h7⟩ := h
  obtain ⟨m', em⟩ : ∃ k : Nat, m = k + 1 := ⟨(m - 1).toNat, by omega⟩
  have e1 : (m - 1).toNat = m' := by omega
  have e2 : m.toNat = m' + 1 := by omega
  have en : (n + 1).toNat = n.toNat + 1 := by omega
  rw [e1] at ex
  refine ⟨by omega, by omega, by omega, fun j hj => h4 j (by omega), ?_, ?_, fun q => ?_⟩
  · rw [e2] at h5
    have h5 : o = ps_o (pt A0) m' + (if 31 ≤ pt A0 m' then 1 else 0) := h5
    rw [if_neg (by omega)] at h5
    rw [e1]
    omega
  · rw [e1]
    rw [e2] at h6
    exact fun b j hb hj e => h6 b j hb (by omega) e
  · obtain ⟨p1, p2⟩ := h7 q
    have x0 : 20 ≤ x.toInt := by rw [ex]; exact (h4 m' (by omega)).1
    refine ⟨?_, fun k hk => ?_⟩
    · rw [en, e1]
      rw [e2] at p1
      have c : ps_c (pt A0) (m' + 1) = ps_c (pt A0) m' + ps_b (pt A0 m') := rfl
      have c0 := ps_c0 (pt A0) m'
      by_cases k : x.toInt = 28
      · have b : ps_b (pt A0 m') = 0 := ps_b0 (by omega)
        exact ps_emit p1 (by omega) (fun k hk => pt_lt hk) (fun k hk => pt_lt hk) pt_eq (Or.inr ⟨rfl, Or.inl (by omega)⟩) (Or.inr (Or.inr ⟨k, by omega, by omega⟩))
      · have b : ps_b (pt A0 m') = 1 := by unfold ps_b; rw [if_pos (by omega)]
        exact ps_emit p1 (by omega) (fun k hk => pt_lt hk) (fun k hk => pt_lt hk) pt_eq (Or.inr ⟨rfl, Or.inl (by omega)⟩) (Or.inr (Or.inl ⟨by omega, by omega, by omega, by omega⟩))
    · rw [pt_lt (by omega), pt_lt (by omega)]
      exact p2 k hk
theorem pq_aim {g : Prop} {A8 A9 A0 A1 : Nat → Int32} {op0 ar0 : Nat → Int} {s i : Nat} {n m o f : Int} {y : Int32} (h : pq g A8 A9 A0 A1 op0 ar0 s n m o f 1) (hm : 1 ≤ m) (x1 : 29 ≤ pt A0 (m - 1).toNat) (x2 : pt A0 (m - 1).toNat ≤ 30) (hy : y.toInt = n) (hi : (i : Int) = pt A1 (m - 1).toNat) : pq g A8 (upd A9 i y) A0 A1 op0 ar0 s n (m - 1) o f 1 := by
  obtain ⟨h1, h2, h3, h4, h5, h6, h7⟩ := h
  obtain ⟨m', em⟩ : ∃ k : Nat, m = k + 1 := ⟨(m - 1).toNat, by omega⟩
  have e1 : (m - 1).toNat = m' := by omega
  have e2 : m.toNat = m' + 1 := by omega
  rw [e1] at x1 x2 hi
  refine ⟨by omega, by omega, by omega, fun j hj => h4 j (by omega), ?_, ?_, fun q => ?_⟩
  · rw [e2] at h5
    have h5 : o = ps_o (pt A0) m' + (if 31 ≤ pt A0 m' then 1 else 0) := h5
    rw [if_neg (by omega)] at h5
    rw [e1]
    omega
  · rw [e1]
    rw [e2] at h6
    exact fun b j hb hj e => h6 b j hb (by omega) e
  · obtain ⟨p1, p2⟩ := h7 q
    rw [e2] at p1
    have hp : (s : Int) ≤ pt A1 m' := by
      obtain ⟨D, d1, d2, d3, d4⟩ := p1
      exact (d4 m' (by omega) x1 x2).1
    have ei : (pt A1 m').toNat = i := by omega
    refine ⟨?_, fun k hk => ?_⟩
    · rw [e1]
      exact ps_aim p1 x1 x2 (by rw [ei, pt_eq, hy]; omega) (fun k hk => pt_ne (by rw [ei] at hk; exact hk))
    · rw [pt_ne (by omega)]
      exact p2 k hk
/-- a bracket is taken off -/
theorem ps_pop {op ar pl pa : Nat → Int} {s n m : Nat} {v : Int} (h : ps_ok op ar pl pa s n (m + 1) v) (hb : 31 ≤ pl m) : ps_ok op ar pl pa s n m v := by
  obtain ⟨D, d1, d2, d3, d4⟩ := h
  refine ⟨D, d1, fun k h0 h1 => ?_, ?_, fun j hj => d4 j (by omega)⟩
  · obtain ⟨q0, q1, q2, q3, q4⟩ := d2 k h0 h1
    refine ⟨q0, q1, q2, q3, fun h3 => ?_⟩
    obtain ⟨r1, r2, r3⟩ := q4 h3
    refine ⟨r1, r2, ?_⟩
    rcases r3 with r3 | ⟨j, hj, g1, g2, ej⟩
    · exact Or.inl r3
    · refine Or.inr ⟨j, ?_, g1, g2, ej⟩
      by_cases q : j = m
      · subst q
        omega
      · omega
  · have d3 : D n = v + (ps_c pl m + ps_b (pl m)) := d3
    rw [ps_b0 (by omega)] at d3
    omega
theorem pq_pop {g : Prop} {A8 A9 A0 A1 : Nat → Int32} {op0 ar0 : Nat → Int} {s : Nat} {n m o f v : Int} (h : pq g A8 A9 A0 A1 op0 ar0 s n m o f v) (hm : 1 ≤ m) (hb : 31 ≤ pt A0 (m - 1).toNat) : 1 ≤ o ∧ pq g A8 A9 A0 A1 op0 ar0 s n (m - 1) (o - 1) f v := by
  obtain ⟨h1, h2, h3, h4, h5, h6, h7⟩ := h
  obtain ⟨m', em⟩ : ∃ k : Nat, m = k + 1 := ⟨(m - 1).toNat, by omega⟩
  have e1 : (m - 1).toNat = m' := by omega
  have e2 : m.toNat = m' + 1 := by omega
  rw [e1] at hb
  rw [e2] at h5
  have h5 : o = ps_o (pt A0) m' + (if 31 ≤ pt A0 m' then 1 else 0) := h5
  rw [if_pos hb] at h5
  have o0 := ps_o0 (pt A0) m'
  refine ⟨by omega, by omega, by omega, by omega, fun j hj => h4 j (by omega), by rw [e1]; omega, ?_, fun q => ?_⟩
  · rw [e1]
    rw [e2] at h6
    exact fun b j hb hj e => h6 b j hb (by omega) e
  · obtain ⟨p1, p2⟩ := h7 q
    rw [e2] at p1
    rw [e1]
    exact ⟨ps_pop p1 hb, p2⟩
/-- what settle leaves -/
def pq_st (A0 : Nat → Int32) (least m m1 : Int) : Prop := (∀ j : Nat, m1 ≤ j → (j : Int) < m → least ≤ ps_bd (pt A0 j)) ∧ (1 ≤ m1 → ps_bd (pt A0 (m1 - 1).toNat) < least)
def pq_sl (A0 : Nat → Int32) (least m m1 : Int) : Prop := ∀ j : Nat, m1 ≤ j → (j : Int) < m → least ≤ ps_bd (pt A0 j)
theorem pq_ss {A0 : Nat → Int32} {least m m1 m2 : Int} (h : pq_sl A0 least m m1) (hl : least ≤ ps_bd (pt A0 m2.toNat)) (h0 : 0 ≤ m2) (e : m1 = m2 + 1) : pq_sl A0 least m m2 := by
  intro j h1 h2
  by_cases c : j = m2.toNat
  · rw [c]; exact hl
  · exact h j (by omega) h2
/-- the last bracket -/
def pq_in (A0 : Nat → Int32) (m z : Int) : Prop := (z = -1 ∧ ∀ j : Nat, (j : Int) < m → pt A0 j < 31) ∨ ∃ b : Nat, (b : Int) < m ∧ z = pt A0 b ∧ 31 ≤ z ∧ ∀ j : Nat, b < j → (j : Int) < m → pt A0 j < 31
theorem pq_in0 {A0 : Nat → Int32} {m z : Int} (hm : m ≤ 0) (hz : z = -1) : pq_in A0 m z := Or.inl ⟨hz, fun j hj => by omega⟩
theorem pq_ins {A0 : Nat → Int32} {m m2 z : Int} (h : pq_in A0 m z) (h0 : 0 ≤ m) (e : m2 = m + 1) (hx : pt A0 m.toNat < 31) : pq_in A0 m2 z := by
  rcases h with ⟨h1, h2⟩ | ⟨b, b1, b2, b3, b4⟩
  · refine Or.inl ⟨h1, fun j hj => ?_⟩
    by_cases c : j = m.toNat
    · rw [c]; exact hx
    · exact h2 j (by omega)
  · refine Or.inr ⟨b, by omega, b2, b3, fun j hj hj2 => ?_⟩
    by_cases c : j = m.toNat
    · rw [c]; exact hx
    · exact b4 j hj (by omega)
theorem pq_inb {A0 : Nat → Int32} {m m2 z : Int} (h0 : 0 ≤ m) (e : m2 = m + 1) (hx : z = pt A0 m.toNat) (hz : 31 ≤ z) : pq_in A0 m2 z := Or.inr ⟨m.toNat, by omega, hx, hz, fun j h1 h2 => by omega⟩
/-- a SQUARE is the last: settle(5) uncovers it -/
theorem pq_sqr {A0 : Nat → Int32} {m m1 z : Int} (hq : ps_sq (pt A0) m.toNat) (hi : pq_in A0 m z) (hz : z = 32) (hs : pq_st A0 5 m m1) (h0 : 0 ≤ m1) (h1 : m1 ≤ m) : 1 ≤ m1 ∧ pt A0 (m1 - 1).toNat = 32 := by
  rcases hi with ⟨i1, i2⟩ | ⟨b, b1, b2, b3, b4⟩
  · omega
  · obtain ⟨s1, s2⟩ := hs
    have c1 : (b : Int) < m1 := by
      by_cases c : (b : Int) < m1
      · exact c
      · have := s1 b (by omega) b1
        unfold ps_bd at this
        rw [if_pos (by omega)] at this
        omega
    by_cases c : (b : Int) = m1 - 1
    · refine ⟨by omega, ?_⟩
      rw [show (m1 - 1).toNat = b by omega]
      omega
    · exfalso
      have k := s2 (by omega)
      have l := hq b (m1 - 1).toNat (by omega) (by omega) (by omega)
      have l2 := b4 (m1 - 1).toNat (by omega) (by omega)
      unfold ps_bd at k
      rcases l with l | l
      · rw [if_neg (by omega), if_neg (by omega), if_neg (by omega), if_neg (by omega), if_neg (by omega)] at k
        split at k <;> omega
      · omega
/-- some bracket is there: settle(1) uncovers one -/
theorem pq_rnd {A0 : Nat → Int32} {m m1 z : Int} (hi : pq_in A0 m z) (hz : z ≠ -1) (hs : pq_st A0 1 m m1) (h0 : 0 ≤ m1) : 1 ≤ m1 ∧ 31 ≤ pt A0 (m1 - 1).toNat := by
  rcases hi with ⟨i1, i2⟩ | ⟨b, b1, b2, b3, b4⟩
  · omega
  · obtain ⟨s1, s2⟩ := hs
    have c1 : (b : Int) < m1 := by
      by_cases c : (b : Int) < m1
      · exact c
      · have := s1 b (by omega) b1
        unfold ps_bd at this
        rw [if_pos (by omega)] at this
        omega
    refine ⟨by omega, ?_⟩
    have k := s2 (by omega)
    unfold ps_bd at k
    split at k
    · assumption
    · split at k
      · omega
      · split at k
        · omega
        · split at k
          · omega
          · split at k
            · omega
            · split at k <;> omega
/-- no bracket: settle(1) settles all -/
theorem pq_all {A0 : Nat → Int32} {m m1 : Int} (hb : ∀ j : Nat, (j : Int) < m → pt A0 j < 31) (hs : pq_st A0 1 m m1) (h0 : 0 ≤ m1) (h1 : m1 ≤ m) : m1 = 0 := by
  by_cases c : m1 = 0
  · exact c
  · exfalso
    have k := hs.2 (by omega)
    have l := hb (m1 - 1).toNat (by omega)
    unfold ps_bd at k
    rw [if_neg (by omega)] at k
    split at k
    · omega
    · split at k
      · omega
      · split at k
        · omega
        · split at k
          · omega
          · split at k <;> omega
/-- the last bracket is no SQUARE: there is none -/
theorem pq_nsq {A0 : Nat → Int32} {m z : Int} (hq : ps_sq (pt A0) m.toNat) (hi : pq_in A0 m z) (hz : z ≠ 32) : ps_ns (pt A0) m.toNat := by
  intro j hj e
  rcases hi with ⟨i1, i2⟩ | ⟨b, b1, b2, b3, b4⟩
  · have := i2 j (by omega)
    omega
  · by_cases c1 : b < j
    · have := b4 j c1 (by omega)
      omega
    · by_cases c2 : b = j
      · subst c2
        omega
      · have := hq j b (by omega) (by omega) e
        omega
theorem ps_nsl {pl : Nat → Int} {m m1 : Nat} (h : ps_ns pl m) (l : m1 ≤ m) : ps_ns pl m1 := fun j hj => h j (by omega)
theorem ps_nsu {A0 : Nat → Int32} {m : Int} {x : Int32} (h : ps_ns (pt A0) m.toNat) (h0 : 0 ≤ m) (hx : x.toInt ≠ 32) : ps_ns (pt (upd A0 m.toNat x)) (m + 1).toNat := by
  intro j hj
  by_cases e : j = m.toNat
  · subst e
    rw [pt_eq]
    exact hx
  · rw [pt_ne e]
    exact h j (by omega)
theorem pq_20 {g : Prop} {A8 A9 A0 A1 : Nat → Int32} {op0 ar0 : Nat → Int} {s : Nat} {n m o f v : Int} (h : pq g A8 A9 A0 A1 op0 ar0 s n m o f v) : ps_sq (pt A0) m.toNat := h.2.2.2.2.2.1
/-- nothing yet -/
theorem pq_0 {g : Prop} {A8 A9 A0 A1 : Nat → Int32} {n f : Int} (hn : 0 ≤ n) (hf : n ≤ f) : pq g A8 A9 A0 A1 (pt A8) (pt A9) n.toNat n 0 0 f 0 := by
  refine ⟨by omega, by omega, by omega, fun j hj => by omega, rfl, fun b j _ hj => by omega, fun _ => ⟨⟨fun _ => 0, fun k h0 h1 => ⟨Int.le_refl _, by dsimp only; omega⟩, fun k h0 h1 => by omega, rfl, fun j hj => by omega⟩, fun k _ => ⟨rfl, rfl⟩⟩⟩
/-- all settled -/
theorem pq_cw {g : Prop} {A8 A9 A0 A1 : Nat → Int32} {op0 ar0 : Nat → Int} {s : Nat} {n m o f v : Int} (h : pq g A8 A9 A0 A1 op0 ar0 s n m o f v) (hg : g) (hm : m = 0) : ty_cw (pt A8) (pt A9) s n ∧ ∀ k, k < s → pt A8 k = op0 k ∧ pt A9 k = ar0 k := by
  obtain ⟨h1, h2, h3, h4, h5, h6, h7⟩ := h
  obtain ⟨p1, p2⟩ := h7 hg
  rw [hm, show ((0 : Int).toNat) = 0 from rfl] at p1
  have q := ps_cw p1
  rw [show ((n.toNat : Nat) : Int) = n by omega] at q
  exact ⟨q, p2⟩
/-- the token -/
def tk_ok (h : pm_H) : Prop := (hs_fI h 97 14).toInt ≤ (hs_fI h 97 15).toInt ∧ (hs_fI h 97 15).toInt ≤ (hs_fI h 97 13).toInt ∧ ((hs_fI h 97 16).toInt ≠ 0 → (hs_fI h 97 14).toInt + 1 ≤ (hs_fI h 97 15).toInt) ∧ ((hs_fI h 97 16).toInt = 1 → (hs_fI h 97 14).toInt + 2 ≤ (hs_fI h 97 15).toInt ∨ (hs_fL h 97 17).toInt ≤ 26)
theorem tk_same {h h' : pm_H} (k : tk_ok h) (e13 : (hs_fI h' 97 13).toInt = (hs_fI h 97 13).toInt) (e14 : (hs_fI h' 97 14).toInt = (hs_fI h 97 14).toInt) (e15 : (hs_fI h' 97 15).toInt = (hs_fI h 97 15).toInt) (e16 : (hs_fI h' 97 16).toInt = (hs_fI h 97 16).toInt) (e17 : (hs_fL h' 97 17).toInt = (hs_fL h 97 17).toInt) : tk_ok h' := by
  unfold tk_ok
  rw [e13, e14, e15, e16, e17]
  exact k
/-- a word, as it grows -/
def tk_w (so t f w : Int) : Prop := so = 1 → ((t = f ∧ w = 0) ∨ (t = f + 1 ∧ w ≤ 26) ∨ f + 2 ≤ t)
theorem tk_w0 {so t f w : Int} (e : t = f) (e2 : w = 0) : tk_w so t f w := fun _ => Or.inl ⟨e, e2⟩
theorem tk_w1 {so t f w : Int} (e : so ≠ 1) : tk_w so t f w := fun q => absurd q e
theorem tk_ws {so t f w t' w' : Int} (h : tk_w so t f w) (e : t' = t + 1) (hw : t = f → w' ≤ 26) : tk_w so t' f w' := by
  intro q
  rcases h q with o | o | o
  · exact Or.inr (Or.inl ⟨by omega, hw o.1⟩)
  · exact Or.inr (Or.inr (by omega))
  · exact Or.inr (Or.inr (by omega))
theorem tk_we {so t f w : Int} (h : tk_w so t f w) (ht : so = 1 → t ≠ f) : so = 1 → f + 2 ≤ t ∨ w ≤ 26 := by
  intro q
  have := ht q
  rcases h q with o | o | o
  · exact absurd o.1 this
  · exact Or.inr o.2
  · exact Or.inl o
/-- the parser between two turns -/
def pz (op0 ar0 : Nat → Int) (s : Nat) (v : Int) (h : pm_H) : Prop := pq ((hs_fI h 97 19).toInt = 0) (hs_aI h 108) (hs_aI h 109) (hs_aI h 110) (hs_aI h 111) op0 ar0 s (hs_fI h 97 23).toInt (hs_fI h 97 29).toInt (hs_fI h 97 30).toInt (hs_fI h 97 14).toInt v
def ns (h : pm_H) : Prop := ps_ns (pt (hs_aI h 110)) (hs_fI h 97 29).toInt.toNat
def nb (h : pm_H) : Prop := ∀ j : Nat, (j : Int) < (hs_fI h 97 29).toInt → pt (hs_aI h 110) j < 31
/-- turns: 0 plain, 1 part, 2 told, 3 summed, 4 over -/
def tz (op0 ar0 : Nat → Int) (s : Nat) (t : Int) (h : pm_H) : Prop := pz op0 ar0 s (if t ≤ 1 then 0 else 1) h ∧ ((hs_fI h 97 19).toInt = 0 → (t = 0 ∨ t = 2 → ns h) ∧ (t = 4 → nb h))
end PQX
