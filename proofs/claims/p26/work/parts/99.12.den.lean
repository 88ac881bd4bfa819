/-! CODE THAT STANDS FOR A VALUE: an evaluator's step g (the words' values, where, the stack: stuck, broken, or where and with which stack it goes on); code from a to e stands for V. -/
section DEN
abbrev dn_G : Type := (Nat → Int) → Nat → List Int → Option (Option (Nat × List Int))
abbrev dn_V : Type := (Nat → Int) → Option Int
def dn_ev (g : Nat → List Int → Option (Option (Nat × List Int))) (e : Nat) : Nat → Nat → List Int → Option (Option (Nat × List Int))
  | 0, _, _ => none
  | f + 1, k, st => if k < e then (match g k st with
    | none => none
    | some none => some none
    | some (some x) => dn_ev g e f x.1 x.2) else some (some (k, st))
theorem dn_mono {g : Nat → List Int → Option (Option (Nat × List Int))} {e : Nat} : ∀ {f f' k : Nat} {st : List Int} {r : Option (Nat × List Int)}, f ≤ f' → dn_ev g e f k st = some r → dn_ev g e f' k st = some r := by
  intro f
  induction f with
  | zero => intro f' k st r _ h; cases h
  | succ f ih =>
    intro f' k st r hf h
    match f', hf with
    | f' + 1, hf =>
      unfold dn_ev at h ⊢
      by_cases q : k < e
      · rw [if_pos q] at h ⊢
        cases hg : g k st with
        | none => rw [hg] at h; cases h
        | some y =>
          rw [hg] at h
          cases y with
          | none => exact h
          | some x => exact ih (by omega) h
      · rw [if_neg q] at h ⊢
        exact h
/-- steps stay within a .. e and go forward -/
def dn_in (g : Nat → List Int → Option (Option (Nat × List Int))) (a e : Nat) : Prop := ∀ k, a ≤ k → k < e → ∀ st x, g k st = some (some x) → k < x.1 ∧ x.1 ≤ e
theorem dn_ext {g : Nat → List Int → Option (Option (Nat × List Int))} {a b e : Nat} (hi : dn_in g a b) (hbe : b ≤ e) : ∀ {f f2 k : Nat} {st : List Int} {r : Option (Nat × List Int)}, a ≤ k → k ≤ b → ∀ {st' : List Int}, dn_ev g b f k st = some (some (b, st')) → dn_ev g e f2 b st' = some r → dn_ev g e (f + f2) k st = some r := by
  intro f
  induction f with
  | zero => intro f2 k st r _ _ st' h; cases h
  | succ f ih =>
    intro f2 k st r ha hk st' h h2
    by_cases q : k < b
    · unfold dn_ev at h
      rw [if_pos q] at h
      rw [show f + 1 + f2 = (f + f2) + 1 by omega]
      unfold dn_ev
      rw [if_pos (by omega)]
      cases hg : g k st with
      | none => rw [hg] at h; cases h
      | some y =>
        rw [hg] at h
        cases y with
        | none => cases h
        | some x =>
          have p := hi k ha q st x hg
          exact ih (by omega) p.2 h h2
    · have e1 : k = b := by omega
      subst e1
      unfold dn_ev at h
      rw [if_neg q] at h
      have e2 : st = st' := by injection h with h; injection h with h; injection h
      subst e2
      exact dn_mono (by omega) h2
theorem dn_extb {g : Nat → List Int → Option (Option (Nat × List Int))} {a b e : Nat} (hi : dn_in g a b) (hbe : b ≤ e) : ∀ {f k : Nat} {st : List Int}, a ≤ k → k ≤ b → dn_ev g b f k st = some none → dn_ev g e f k st = some none := by
  intro f
  induction f with
  | zero => intro k st _ _ h; cases h
  | succ f ih =>
    intro k st ha hk h
    by_cases q : k < b
    · unfold dn_ev at h ⊢
      rw [if_pos q] at h
      rw [if_pos (by omega)]
      cases hg : g k st with
      | none => rw [hg] at h; cases h
      | some y =>
        rw [hg] at h
        cases y with
        | none => rfl
        | some x =>
          have p := hi k ha q st x hg
          exact ih (by omega) p.2 h
    · unfold dn_ev at h
      rw [if_neg q] at h
      cases h
theorem dn_cong {g g' : Nat → List Int → Option (Option (Nat × List Int))} {a e : Nat} (hi : dn_in g a e) (hg : ∀ k, a ≤ k → k < e → g' k = g k) : ∀ {f k : Nat} {st : List Int}, a ≤ k → dn_ev g' e f k st = dn_ev g e f k st := by
  intro f
  induction f with
  | zero => intro k st _; rfl
  | succ f ih =>
    intro k st ha
    unfold dn_ev
    by_cases q : k < e
    · rw [if_pos q, if_pos q, hg k ha q]
      cases h : g k st with
      | none => rfl
      | some y =>
        cases y with
        | none => rfl
        | some x =>
          have p := hi k ha q st x h
          exact ih (by omega)
    · rw [if_neg q, if_neg q]
def dn_wb (wd : Nat → Int) : Prop := ∀ u, -2147483648 ≤ wd u ∧ wd u ≤ 2147483647
/-- from a to e the code stands for V; it pushes m at most -/
def dn (g : dn_G) (a e m : Nat) (V : dn_V) : Prop := a ≤ e ∧ (∀ wd, dn_in (g wd) a e) ∧ ∀ wd, dn_wb wd → ∀ st : List Int, st.length + m ≤ 51 → ∃ f, dn_ev (g wd) e f a st = some ((V wd).map (fun v => (e, v :: st)))
theorem dn.cong {g g' : dn_G} {a e m : Nat} {V : dn_V} (d : dn g a e m V) (hg : ∀ wd k, a ≤ k → k < e → g' wd k = g wd k) : dn g' a e m V := by
  obtain ⟨h0, h1, h2⟩ := d
  refine ⟨h0, fun wd k ha hk st x h => h1 wd k ha hk st x (by rw [← hg wd k ha hk]; exact h), fun wd hw st hs => ?_⟩
  obtain ⟨f, hf⟩ := h2 wd hw st hs
  exact ⟨f, by rw [dn_cong (h1 wd) (hg wd) (Nat.le_refl _)]; exact hf⟩
/-- one step at a -/
theorem dn_leaf {g : dn_G} {a : Nat} {v : (Nat → Int) → Int} (h1 : ∀ wd (st : List Int), st.length < 51 → g wd a st = some (some (a + 1, v wd :: st))) (h2 : ∀ wd st x, g wd a st = some (some x) → x.1 = a + 1) : dn g a (a + 1) 1 (fun wd => some (v wd)) := by
  refine ⟨by omega, fun wd k ha hk st x h => ?_, fun wd _ st hs => ⟨2, ?_⟩⟩
  · obtain rfl : k = a := by omega
    have := h2 wd st x h
    omega
  · unfold dn_ev
    rw [if_pos (by omega), h1 wd st (by omega)]
    dsimp only
    unfold dn_ev
    rw [if_neg (by omega)]
    rfl
def dn_bin (o : Int → Int → Option Int) (V1 V2 : dn_V) : dn_V := fun wd => match V1 wd, V2 wd with
  | some x, some y => o x y
  | _, _ => none
theorem dn_in.app {g : Nat → List Int → Option (Option (Nat × List Int))} {a b e : Nat} (h1 : dn_in g a b) (h2 : dn_in g b e) (hb : b ≤ e) : dn_in g a e := by
  intro k ha hk st x h
  by_cases q : k < b
  · have p := h1 k ha q st x h
    exact ⟨p.1, by omega⟩
  · exact h2 k (by omega) hk st x h
theorem dn_in.one {g : Nat → List Int → Option (Option (Nat × List Int))} {a : Nat} (h : ∀ st x, g a st = some (some x) → x.1 = a + 1) : dn_in g a (a + 1) := by
  intro k ha hk st x hx
  obtain rfl : k = a := by omega
  have := h st x hx
  omega
theorem dn.bin {g : dn_G} {a b e m1 m2 : Nat} {V1 V2 : dn_V} {o : Int → Int → Option Int} (d1 : dn g a b m1 V1) (d2 : dn g b e m2 V2) (h0 : 1 ≤ m1) (h1 : ∀ wd x y r, g wd e (y :: x :: r) = some ((o x y).map (fun v => (e + 1, v :: r)))) (h2 : ∀ wd st x, g wd e st = some (some x) → x.1 = e + 1) : dn g a (e + 1) (m1 + m2) (dn_bin o V1 V2) := by
  obtain ⟨l1, i1, k1⟩ := d1
  obtain ⟨l2, i2, k2⟩ := d2
  refine ⟨by omega, fun wd => ((i1 wd).app (i2 wd) l2).app (dn_in.one (h2 wd)) (by omega), fun wd hw st hs => ?_⟩
  obtain ⟨f1, e1⟩ := k1 wd hw st (by omega)
  unfold dn_bin
  cases hv1 : V1 wd with
  | none =>
    rw [hv1] at e1
    exact ⟨f1, dn_extb (i1 wd) (by omega) (Nat.le_refl _) l1 e1⟩
  | some x =>
    rw [hv1] at e1
    obtain ⟨f2, e2⟩ := k2 wd hw (x :: st) (by show st.length + 1 + m2 ≤ 51; omega)
    cases hv2 : V2 wd with
    | none =>
      rw [hv2] at e2
      exact ⟨f1 + f2, dn_ext (i1 wd) (by omega) (Nat.le_refl _) l1 e1 (dn_extb (i2 wd) (by omega) (Nat.le_refl _) l2 e2)⟩
    | some y =>
      rw [hv2] at e2
      refine ⟨f1 + (f2 + 2), dn_ext (i1 wd) (by omega) (Nat.le_refl _) l1 e1 (dn_ext (i2 wd) (by omega) (Nat.le_refl _) l2 e2 ?_)⟩
      unfold dn_ev
      rw [if_pos (by omega), h1 wd x y st]
      dsimp only
      cases ho : o x y with
      | none => rfl
      | some v =>
        show dn_ev (g wd) (e + 1) 1 (e + 1) (v :: st) = _
        unfold dn_ev
        rw [if_neg (by omega)]
        rfl
def dn_not (V : dn_V) : dn_V := fun wd => (V wd).map (fun v => 1 - v)
theorem dn.not {g : dn_G} {a e m : Nat} {V : dn_V} (d : dn g a e m V) (h1 : ∀ wd x r, g wd e (x :: r) = some (some (e + 1, (1 - x) :: r))) (h2 : ∀ wd st x, g wd e st = some (some x) → x.1 = e + 1) : dn g a (e + 1) m (dn_not V) := by
  obtain ⟨l1, i1, k1⟩ := d
  refine ⟨by omega, fun wd => (i1 wd).app (dn_in.one (h2 wd)) (by omega), fun wd hw st hs => ?_⟩
  obtain ⟨f1, e1⟩ := k1 wd hw st hs
  unfold dn_not
  cases hv : V wd with
  | none =>
    rw [hv] at e1
    exact ⟨f1, dn_extb (i1 wd) (by omega) (Nat.le_refl _) l1 e1⟩
  | some x =>
    rw [hv] at e1
    refine ⟨f1 + 2, dn_ext (i1 wd) (by omega) (Nat.le_refl _) l1 e1 ?_⟩
    unfold dn_ev
    rw [if_pos (by omega), h1 wd x st]
    dsimp only
    unfold dn_ev
    rw [if_neg (by omega)]
    rfl
/-- "and" (q 0), "or" (q 1) -/
def dn_skip (q : Int) (V1 V2 : dn_V) : dn_V := fun wd => match V1 wd with
  | some x => if x = q then some x else V2 wd
  | none => none
theorem dn.skip {g : dn_G} {a b e m1 m2 : Nat} {V1 V2 : dn_V} {q : Int} (d1 : dn g a b m1 V1) (d2 : dn g (b + 1) e m2 V2) (h1 : ∀ wd x r, g wd b (x :: r) = some (some (if x = q then (e, x :: r) else (b + 1, r)))) (h2 : ∀ wd st x, g wd b st = some (some x) → x.1 = e ∨ x.1 = b + 1) : dn g a e (m1 + m2) (dn_skip q V1 V2) := by
  obtain ⟨l1, i1, k1⟩ := d1
  obtain ⟨l2, i2, k2⟩ := d2
  have ib : ∀ wd, dn_in (g wd) b e := by
    intro wd k ha hk st x h
    by_cases p : k = b
    · subst p
      have := h2 wd st x h
      omega
    · exact i2 wd k (by omega) hk st x h
  refine ⟨by omega, fun wd => (i1 wd).app (ib wd) (by omega), fun wd hw st hs => ?_⟩
  obtain ⟨f1, e1⟩ := k1 wd hw st (by omega)
  unfold dn_skip
  cases hv1 : V1 wd with
  | none =>
    rw [hv1] at e1
    exact ⟨f1, dn_extb (i1 wd) (by omega) (Nat.le_refl _) l1 e1⟩
  | some x =>
    rw [hv1] at e1
    dsimp only
    by_cases p : x = q
    · rw [if_pos p]
      refine ⟨f1 + 2, dn_ext (i1 wd) (by omega) (Nat.le_refl _) l1 e1 ?_⟩
      unfold dn_ev
      rw [if_pos (by omega), h1 wd x st, if_pos p]
      dsimp only
      unfold dn_ev
      rw [if_neg (by omega)]
      rfl
    · rw [if_neg p]
      obtain ⟨f2, e2⟩ := k2 wd hw st (by omega)
      refine ⟨f1 + (f2 + 1), dn_ext (i1 wd) (by omega) (Nat.le_refl _) l1 e1 ?_⟩
      unfold dn_ev
      rw [if_pos (by omega), h1 wd x st, if_neg p]
      exact e2
/-- a test's value is 0 or 1 -/
def dn_01 (V : dn_V) : Prop := ∀ wd v, V wd = some v → v = 0 ∨ v = 1
theorem dn_01.not {V : dn_V} (h : dn_01 V) : dn_01 (dn_not V) := by
  intro wd v e
  unfold dn_not at e
  cases hv : V wd with
  | none => rw [hv] at e; cases e
  | some x =>
    rw [hv] at e
    have e : some (1 - x) = some v := e
    injection e with e
    have := h wd x hv
    omega
theorem dn_01.skip {q : Int} {V1 V2 : dn_V} (h1 : dn_01 V1) (h2 : dn_01 V2) : dn_01 (dn_skip q V1 V2) := by
  intro wd v e
  unfold dn_skip at e
  cases hv : V1 wd with
  | none => rw [hv] at e; cases e
  | some x =>
    rw [hv] at e
    dsimp only at e
    by_cases p : x = q
    · rw [if_pos p] at e
      injection e with e
      subst e
      exact h1 wd x hv
    · rw [if_neg p] at e
      exact h2 wd v e
theorem dn_not2 {V : dn_V} : dn_not (dn_not V) = V := by
  funext wd
  unfold dn_not
  cases V wd with
  | none => rfl
  | some x =>
    show some (1 - (1 - x)) = some x
    rw [show 1 - (1 - x) = x by omega]
end DEN
