/-! TOKENS: where one begins and ends, what it is; as the class and as the model see it. -/
section TKN
/-- past all for which p holds, from i on, within T -/
def xt_w (p : Nat → Bool) (T : Nat) : Nat → Nat → Nat
  | 0, i => i
  | n + 1, i => bif decide (i < T) && p i then xt_w p T n (i + 1) else i
theorem xt_u {p : Nat → Bool} {T : Nat} : ∀ {n i j : Nat}, T ≤ i + n → i ≤ j → (∀ k, i ≤ k → k < j → k < T ∧ p k = true) → (j < T → p j = false) → xt_w p T n i = j := by
  intro n
  induction n with
  | zero =>
    intro i j hn hij ha hb
    by_cases e : i = j
    · exact e
    · exact absurd (ha i (Nat.le_refl _) (by omega)).1 (by omega)
  | succ n ih =>
    intro i j hn hij ha hb
    unfold xt_w
    by_cases e : i = j
    · subst e
      by_cases q : i < T
      · rw [hb q, Bool.and_false]; rfl
      · rw [decide_eq_false q]; rfl
    · have q := ha i (Nat.le_refl _) (by omega)
      rw [decide_eq_true q.1, q.2]
      exact ih (by omega) (by omega) (fun k h1 h2 => ha k (by omega) h2) hb
theorem xt_wp {p : Nat → Bool} {T : Nat} : ∀ {n i : Nat}, T ≤ i + n → i ≤ xt_w p T n i ∧ (∀ k, i ≤ k → k < xt_w p T n i → k < T ∧ p k = true) ∧ (xt_w p T n i < T → p (xt_w p T n i) = false) ∧ (i ≤ T → xt_w p T n i ≤ T) := by
  intro n
  induction n with
  | zero =>
    intro i hn
    exact ⟨Nat.le_refl _, fun k h1 h2 => absurd h2 (by show ¬ k < i; omega), fun h => absurd h (by show ¬ i < T; omega), fun h => h⟩
  | succ n ih =>
    intro i hn
    unfold xt_w
    cases hb : (decide (i < T) && p i) with
    | false =>
      refine ⟨Nat.le_refl _, fun k h1 h2 => absurd h2 (by show ¬ k < i; omega), fun h => ?_, fun h => h⟩
      have h : i < T := h
      show p i = false
      rw [decide_eq_true h, Bool.true_and] at hb
      exact hb
    | true =>
      rw [Bool.and_eq_true, decide_eq_true_eq] at hb
      obtain ⟨a1, a2, a3, a4⟩ := ih (i := i + 1) (by omega)
      refine ⟨Nat.le_trans (Nat.le_succ i) a1, fun k h1 h2 => ?_, a3, fun h => a4 (by omega)⟩
      by_cases e : k = i
      · subst e; exact hb
      · exact a2 k (by omega) h2
def xt_bl (F : Nat → Int32) (i : Nat) : Bool := decide ((F i).toInt = 32)
def xt_lt (F : Nat → Int32) (i : Nat) : Bool := decide (97 ≤ (F i).toInt) && decide ((F i).toInt ≤ 122)
def xt_dg (F : Nat → Int32) (i : Nat) : Bool := decide (48 ≤ (F i).toInt) && decide ((F i).toInt ≤ 57)
/-- the token's beginning at q or behind; the end of the one that begins at s -/
def xt_S (F : Nat → Int32) (T q : Nat) : Nat := xt_w (xt_bl F) T (T - q) q
def xt_E (F : Nat → Int32) (T s : Nat) : Nat := bif decide (s < T) then (bif xt_lt F s then xt_w (xt_lt F) T (T - s) s else bif xt_dg F s then xt_w (xt_dg F) T (T - s) s else s + 1) else s
/-- the next one behind that at s -/
def xt_N (F : Nat → Int32) (T s : Nat) : Nat := xt_S F T (xt_E F T s)
theorem xt_S_p {F : Nat → Int32} {T q : Nat} (h : q ≤ T) : q ≤ xt_S F T q ∧ xt_S F T q ≤ T := by
  obtain ⟨a1, _, _, a4⟩ := xt_wp (p := xt_bl F) (T := T) (n := T - q) (i := q) (by omega)
  exact ⟨a1, a4 h⟩
theorem xt_E_p {F : Nat → Int32} {T s : Nat} (h : s ≤ T) : s ≤ xt_E F T s ∧ xt_E F T s ≤ T ∧ (s < T → s < xt_E F T s) := by
  unfold xt_E
  by_cases e : s < T
  · rw [decide_eq_true e]
    dsimp only [cond]
    cases hl : xt_lt F s with
    | true =>
      obtain ⟨a1, a2, a3, a4⟩ := xt_wp (p := xt_lt F) (T := T) (n := T - s) (i := s) (by omega)
      refine ⟨a1, a4 h, fun _ => ?_⟩
      by_cases q : s = xt_w (xt_lt F) T (T - s) s
      · have k := a3 (by omega)
        rw [← q, hl] at k
        cases k
      · dsimp only [cond]; omega
    | false =>
      dsimp only [cond]
      cases hd : xt_dg F s with
      | true =>
        obtain ⟨a1, a2, a3, a4⟩ := xt_wp (p := xt_dg F) (T := T) (n := T - s) (i := s) (by omega)
        refine ⟨a1, a4 h, fun _ => ?_⟩
        by_cases q : s = xt_w (xt_dg F) T (T - s) s
        · have k := a3 (by omega)
          rw [← q, hd] at k
          cases k
        · dsimp only [cond]; omega
      | false =>
        dsimp only [cond]
        omega
  · rw [decide_eq_false e]
    dsimp only [cond]
    omega
/-- the token at s is these bytes -/
def xt_is (F : Nat → Int32) (s e : Nat) (w : List Int) : Prop := e = s + w.length ∧ ∀ i, i < w.length → (F (s + i)).toInt = w.getD i 0
/-- the model's number for n letters from s on -/
def xt_wh (F : Nat → Int32) (s : Nat) : Nat → Int
  | 0 => 0
  | n + 1 => if n < 10 then xt_wh F s n * 32 + (F (s + n)).toInt - 96 else -1
/-- a word's number -/
def xt_hw : List Int → Int → Int
  | [], a => a
  | c :: r, a => xt_hw r (a * 32 + c - 96)
def xt_lw (w : List Int) : Prop := ∀ i, i < w.length → 97 ≤ w.getD i 0 ∧ w.getD i 0 ≤ 122
def xt_h (G : Nat → Int) : Nat → Int
  | 0 => 0
  | n + 1 => xt_h G n * 32 + G n - 96
theorem xt_h_nn {G : Nat → Int} : ∀ n : Nat, (∀ i, i < n → 97 ≤ G i ∧ G i ≤ 122) → 0 ≤ xt_h G n ∧ (0 < n → 0 < xt_h G n)
  | 0, _ => ⟨Int.le_refl _, fun h => absurd h (by omega)⟩
  | n + 1, h => by
    have q := (xt_h_nn n (fun i hi => h i (by omega))).1
    have p := h n (by omega)
    show 0 ≤ xt_h G n * 32 + G n - 96 ∧ (0 < n + 1 → 0 < xt_h G n * 32 + G n - 96)
    omega
theorem xt_h_inj {G H : Nat → Int} : ∀ n m : Nat, (∀ i, i < n → 97 ≤ G i ∧ G i ≤ 122) → (∀ i, i < m → 97 ≤ H i ∧ H i ≤ 122) → xt_h G n = xt_h H m → n = m ∧ ∀ i, i < n → G i = H i
  | 0, 0, _, _, _ => ⟨rfl, fun i hi => absurd hi (by omega)⟩
  | 0, m + 1, _, hH, e => by
    have q := (xt_h_nn (m + 1) hH).2 (by omega)
    have e : (0 : Int) = xt_h H (m + 1) := e
    omega
  | n + 1, 0, hG, _, e => by
    have q := (xt_h_nn (n + 1) hG).2 (by omega)
    have e : xt_h G (n + 1) = (0 : Int) := e
    omega
  | n + 1, m + 1, hG, hH, e => by
    have e : xt_h G n * 32 + G n - 96 = xt_h H m * 32 + H m - 96 := e
    have p := hG n (by omega)
    have q := hH m (by omega)
    have e2 : xt_h G n = xt_h H m ∧ G n = H m := by omega
    obtain ⟨k1, k2⟩ := xt_h_inj n m (fun i hi => hG i (by omega)) (fun i hi => hH i (by omega)) e2.1
    refine ⟨by omega, fun i hi => ?_⟩
    by_cases e3 : i = n
    · subst e3
      subst k1
      exact e2.2
    · exact k2 i (by omega)
theorem xt_wh_h {F : Nat → Int32} {s : Nat} : ∀ n : Nat, n ≤ 10 → xt_wh F s n = xt_h (fun i => (F (s + i)).toInt) n
  | 0, _ => rfl
  | n + 1, h => by
    show (if n < 10 then xt_wh F s n * 32 + (F (s + n)).toInt - 96 else -1) = xt_h (fun i => (F (s + i)).toInt) n * 32 + (F (s + n)).toInt - 96
    rw [if_pos (by omega), xt_wh_h n (by omega)]
theorem xt_wh_big {F : Nat → Int32} {s n : Nat} (h : 10 < n) : xt_wh F s n = -1 := by
  obtain ⟨m, rfl⟩ : ∃ m, n = m + 1 := ⟨n - 1, by omega⟩
  show (if m < 10 then _ else _) = _
  rw [if_neg (by omega)]
/-- letters from s to e, ten at most: the model's number tells which -/
theorem xt_word {F : Nat → Int32} {s e : Nat} {w : List Int} (hse : s ≤ e) (hl : ∀ i, s ≤ i → i < e → 97 ≤ (F i).toInt ∧ (F i).toInt ≤ 122) (hw : xt_lw w) (h0 : 0 < w.length) (h10 : w.length ≤ 10) : xt_wh F s (e - s) = xt_h (fun i => w.getD i 0) w.length ↔ xt_is F s e w := by
  have hw' : ∀ i, i < w.length → 97 ≤ (fun i => w.getD i 0) i ∧ (fun i => w.getD i 0) i ≤ 122 := hw
  constructor
  · intro h
    by_cases hb : e - s ≤ 10
    · rw [xt_wh_h _ hb] at h
      obtain ⟨k1, k2⟩ := xt_h_inj (e - s) w.length (fun i hi => hl (s + i) (by omega) (by omega)) hw' h
      exact ⟨by omega, fun i hi => k2 i (by omega)⟩
    · rw [xt_wh_big (by omega)] at h
      have q := (xt_h_nn w.length hw').2 h0
      omega
  · intro h
    obtain ⟨h1, h2⟩ := h
    have e1 : e - s = w.length := by omega
    rw [e1, xt_wh_h _ h10]
    have key : ∀ n, n ≤ w.length → xt_h (fun i => (F (s + i)).toInt) n = xt_h (fun i => w.getD i 0) n := by
      intro n
      induction n with
      | zero => intro _; rfl
      | succ n ih =>
        intro hn
        show xt_h _ n * 32 + (F (s + n)).toInt - 96 = xt_h _ n * 32 + w.getD n 0 - 96
        rw [ih (by omega), h2 n (by omega)]
    exact key _ (Nat.le_refl _)
/-- the value of n digits from s on: the model's, the class's -/
def xt_dv (F : Nat → Int32) (s : Nat) : Nat → Int
  | 0 => 0
  | n + 1 => if 1000000 < xt_dv F s n then xt_dv F s n else xt_dv F s n * 10 + (F (s + n)).toInt - 48
def xt_cv (F : Nat → Int32) (s : Nat) : Nat → Int
  | 0 => 0
  | n + 1 => if xt_cv F s n ≤ 1000 then xt_cv F s n * 10 + (F (s + n)).toInt - 48 else xt_cv F s n
theorem xt_cd {F : Nat → Int32} {s : Nat} : ∀ n : Nat, (∀ i, i < n → 48 ≤ (F (s + i)).toInt ∧ (F (s + i)).toInt ≤ 57) → 0 ≤ xt_cv F s n ∧ 0 ≤ xt_dv F s n ∧ xt_cv F s n ≤ 10009 ∧ xt_dv F s n ≤ 10000009 ∧ (xt_cv F s n = xt_dv F s n ∨ (1000 < xt_cv F s n ∧ 1000 < xt_dv F s n))
  | 0, _ => ⟨Int.le_refl _, Int.le_refl _, (by show (0 : Int) ≤ 10009; omega), (by show (0 : Int) ≤ 10000009; omega), Or.inl rfl⟩
  | n + 1, h => by
    have q := xt_cd n (fun i hi => h i (by omega))
    have p := h n (by omega)
    have e1 : xt_cv F s (n + 1) = if xt_cv F s n ≤ 1000 then xt_cv F s n * 10 + (F (s + n)).toInt - 48 else xt_cv F s n := rfl
    have e2 : xt_dv F s (n + 1) = if 1000000 < xt_dv F s n then xt_dv F s n else xt_dv F s n * 10 + (F (s + n)).toInt - 48 := rfl
    rw [e1, e2]
    split <;> split <;> omega
end TKN
