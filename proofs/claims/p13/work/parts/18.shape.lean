/-! THE SHAPE of the heap behind the constructors: cells 0 .. 128 keep class, kind, length, and what their final references name. A shape: (kind of array, length, []), or (10 + class, 0, fields); a field: 0 int, 1 boolean, 2 long, 3 a fixed cell, 4 one of the trains 1 and 12, 5 one of the steps 58 and 60. -/
section SHP
def hs_L : List (Nat × Nat × List (Nat × Nat)) := [
  (20, 0, [(4, 0), (4, 0), (3, 23), (3, 34), (3, 57), (5, 0), (5, 0), (3, 62), (3, 72), (3, 76), (3, 86), (3, 92), (3, 94), (3, 96), (0, 0), (0, 0)]),
  (18, 0, [(0, 0), (3, 2), (3, 3), (0, 0), (3, 4), (3, 5), (3, 6), (3, 7), (0, 0), (0, 0), (0, 0), (3, 8), (3, 9), (3, 10), (0, 0), (3, 11), (0, 0)]),
  (0, 8, []),
  (0, 8, []),
  (0, 8, []),
  (0, 8, []),
  (0, 8, []),
  (0, 36, []),
  (0, 6, []),
  (0, 6, []),
  (0, 3, []),
  (3, 6, []),
  (18, 0, [(0, 0), (3, 13), (3, 14), (0, 0), (3, 15), (3, 16), (3, 17), (3, 18), (0, 0), (0, 0), (0, 0), (3, 19), (3, 20), (3, 21), (0, 0), (3, 22), (0, 0)]),
  (0, 8, []),
  (0, 8, []),
  (0, 8, []),
  (0, 8, []),
  (0, 8, []),
  (0, 36, []),
  (0, 6, []),
  (0, 6, []),
  (0, 3, []),
  (3, 6, []),
  (18, 0, [(0, 0), (3, 24), (3, 25), (0, 0), (3, 26), (3, 27), (3, 28), (3, 29), (0, 0), (0, 0), (0, 0), (3, 30), (3, 31), (3, 32), (0, 0), (3, 33), (0, 0)]),
  (0, 8, []),
  (0, 8, []),
  (0, 8, []),
  (0, 8, []),
  (0, 8, []),
  (0, 36, []),
  (0, 6, []),
  (0, 6, []),
  (0, 3, []),
  (3, 6, []),
  (4, 2, []),
  (18, 0, [(0, 0), (3, 36), (3, 37), (0, 0), (3, 38), (3, 39), (3, 40), (3, 41), (0, 0), (0, 0), (0, 0), (3, 42), (3, 43), (3, 44), (0, 0), (3, 45), (0, 0)]),
  (0, 8, []),
  (0, 8, []),
  (0, 8, []),
  (0, 8, []),
  (0, 8, []),
  (0, 36, []),
  (0, 6, []),
  (0, 6, []),
  (0, 3, []),
  (3, 6, []),
  (18, 0, [(0, 0), (3, 47), (3, 48), (0, 0), (3, 49), (3, 50), (3, 51), (3, 52), (0, 0), (0, 0), (0, 0), (3, 53), (3, 54), (3, 55), (0, 0), (3, 56), (0, 0)]),
  (0, 8, []),
  (0, 8, []),
  (0, 8, []),
  (0, 8, []),
  (0, 8, []),
  (0, 36, []),
  (0, 6, []),
  (0, 6, []),
  (0, 3, []),
  (3, 6, []),
  (2, 2, []),
  (15, 0, [(3, 59), (0, 0), (0, 0)]),
  (0, 448, []),
  (15, 0, [(3, 61), (0, 0), (0, 0)]),
  (0, 448, []),
  (13, 0, [(3, 63), (0, 0), (0, 0), (0, 0), (0, 0), (0, 0), (1, 0), (3, 64)]),
  (0, 400, []),
  (17, 0, [(0, 0), (3, 65), (3, 66), (3, 67), (3, 68), (3, 69), (0, 0), (3, 70), (3, 71), (0, 0)]),
  (0, 12, []),
  (0, 12, []),
  (0, 12, []),
  (0, 12, []),
  (0, 12, []),
  (0, 400, []),
  (0, 400, []),
  (14, 0, [(3, 73), (3, 75)]),
  (16, 0, [(3, 74)]),
  (1, 51, []),
  (0, 10, []),
  (11, 0, [(3, 77), (3, 81), (3, 83), (3, 84), (3, 85), (0, 0)]),
  (14, 0, [(3, 78), (3, 80)]),
  (16, 0, [(3, 79)]),
  (1, 51, []),
  (0, 10, []),
  (16, 0, [(3, 82)]),
  (1, 51, []),
  (0, 21, []),
  (0, 8, []),
  (0, 8, []),
  (10, 0, [(3, 87), (3, 88), (3, 89), (3, 90), (0, 0), (3, 91)]),
  (0, 37, []),
  (0, 296, []),
  (0, 2304, []),
  (0, 8, []),
  (0, 8, []),
  (12, 0, [(3, 93)]),
  (0, 64, []),
  (19, 0, [(3, 95)]),
  (0, 6, []),
  (0, 7, []),
  (21, 0, [(0, 0), (0, 0), (3, 98), (3, 99), (3, 100), (3, 101), (3, 102), (3, 103), (0, 0), (3, 104), (3, 105), (0, 0), (3, 106), (0, 0), (0, 0), (0, 0), (0, 0), (2, 0), (0, 0), (1, 0), (1, 0), (0, 0), (3, 107), (0, 0), (3, 108), (3, 109), (0, 0), (3, 110), (3, 111), (0, 0), (0, 0), (3, 112), (3, 113), (3, 114), (0, 0), (3, 115), (3, 116), (3, 117), (1, 0), (2, 0), (2, 0), (3, 118), (3, 119), (3, 120), (3, 121), (3, 122), (3, 123), (3, 124), (3, 125), (3, 126), (3, 127), (0, 0), (0, 0), (0, 0), (1, 0), (2, 0), (3, 128), (0, 0), (0, 0)]),
  (0, 7, []),
  (0, 5498, []),
  (0, 10996, []),
  (2, 2, []),
  (0, 522, []),
  (0, 16, []),
  (0, 464, []),
  (0, 16, []),
  (0, 400, []),
  (0, 96, []),
  (0, 400, []),
  (0, 400, []),
  (0, 400, []),
  (0, 400, []),
  (1, 10, []),
  (1, 7, []),
  (1, 4, []),
  (1, 13, []),
  (1, 13, []),
  (1, 400, []),
  (0, 8, []),
  (0, 8, []),
  (0, 2048, []),
  (0, 2304, []),
  (0, 64, []),
  (2, 64, []),
  (0, 41, []),
  (0, 6, []),
  (1, 4, []),
  (0, 96, []),
  (0, 29, [])]
def hs_sh (a : Nat) : Nat × Nat × List (Nat × Nat) := hs_L.getD a (99, 0, [])
def hs_fd (f : Nat × Nat) (v : Value) : Prop := match f.1 with
  | 0 => ∃ x, v = .int x
  | 1 => v = .int 0 ∨ v = .int 1
  | 2 => ∃ x, v = .long x
  | 3 => v = .ref f.2
  | 4 => v = .ref 1 ∨ v = .ref 12
  | 5 => v = .ref 58 ∨ v = .ref 60
  | _ => False
def hs_ar (t : Nat) (A : vp_A) : Prop := match t with
  | 0 => ∃ f, A.2 = .inl f
  | 1 => ∃ f, A.2 = .inr (.inl f)
  | 2 => ∃ f, A.2 = .inl f
  | 3 => ∃ f, A.2 = .inr (.inr (.inr (.inr f)))
  | 4 => ∃ f, A.2 = .inr (.inr (.inr (.inr f)))
  | _ => False
def hs_ok (s : Nat × Nat × List (Nat × Nat)) (c : pm_C) : Prop := match c with
  | .inl (t, A) => t = s.1 ∧ A.1 = s.2.1 ∧ hs_ar t A
  | .inr (ci, vs) => 10 + ci = s.1 ∧ vs.length = s.2.2.length ∧ ∀ (k : Nat) (f : Nat × Nat) (v : Value), s.2.2[k]? = some f → vs[k]? = some v → hs_fd f v
/-- each static cell is as it was made -/
def hs_Shape (h : pm_H) : Prop := 129 ≤ h.1 ∧ ∀ a, a < 129 → hs_ok (hs_sh a) (h.2.2 a)
/-- projections -/
def hs_vs (h : pm_H) (a : Nat) : List Value := match h.2.2 a with
  | .inr x => x.2
  | .inl _ => []
def hs_fV (h : pm_H) (a k : Nat) : Value := (hs_vs h a).getD k .null
def hs_fI (h : pm_H) (a k : Nat) : Int32 := match hs_fV h a k with
  | .int x => x
  | _ => 0
def hs_fL (h : pm_H) (a k : Nat) : Int64 := match hs_fV h a k with
  | .long x => x
  | _ => 0
def hs_aI (h : pm_H) (a : Nat) : Nat → Int32 := match h.2.2 a with
  | .inl (_, _, .inl f) => f
  | _ => fun _ => 0
def hs_aL (h : pm_H) (a : Nat) : Nat → Int64 := match h.2.2 a with
  | .inl (_, _, .inr (.inl f)) => f
  | _ => fun _ => 0
/-- writers -/
def hs_sF (h : pm_H) (a ci k : Nat) (v : Value) : pm_H := pm_hset h a (.inr (ci, (hs_vs h a).set k v))
def hs_sA (h : pm_H) (a t n j : Nat) (x : Int32) : pm_H := pm_hset h a (.inl (t, n, .inl (upd (hs_aI h a) j x)))
def hs_sL (h : pm_H) (a n j : Nat) (x : Int64) : pm_H := pm_hset h a (.inl (1, n, .inr (.inl (vp_updL (hs_aL h a) j x))))
theorem hs_obj {h : pm_H} (S : hs_Shape h) {a ci : Nat} {fs : List (Nat × Nat)} (hs : hs_sh a = (10 + ci, 0, fs)) (ha : a < 129) : pm_obj h (.ref a) = some (a, ci, hs_vs h a) ∧ (hs_vs h a).length = fs.length ∧ ∀ (k : Nat) (f : Nat × Nat), fs[k]? = some f → hs_fd f (hs_fV h a k) := by
  have k := S.2 a ha
  rw [hs] at k
  have h1 := S.1
  unfold pm_obj hs_fV hs_vs
  dsimp only
  rw [decide_eq_true (show a < h.1 by omega)]
  cases hc : h.2.2 a with
  | inl x =>
    rw [hc] at k
    obtain ⟨k1, k2, k3⟩ := k
    exfalso
    unfold hs_ar at k3
    dsimp only at k1
    split at k3
    all_goals first | omega | exact k3
  | inr x =>
    rw [hc] at k
    obtain ⟨k1, k2, k3⟩ := k
    obtain ⟨ci', vs⟩ := x
    dsimp only at k1 k2 k3 ⊢
    have e : ci' = ci := by omega
    subst e
    refine ⟨rfl, k2, fun j f hf => ?_⟩
    have hj : j < vs.length := by
      rw [k2]
      exact (List.getElem?_eq_some_iff.mp hf).1
    refine k3 j f _ hf ?_
    rw [List.getD_eq_getElem?_getD, List.getElem?_eq_getElem hj]
    rfl
theorem hs_iarr {X : pm_X} {h : pm_H} (S : hs_Shape h) {a n : Nat} (hs : hs_sh a = (0, n, [])) (ha : a < 129) : pm_arr X h (.ref a) = some (0, n, .inl (hs_aI h a)) := by
  have k := S.2 a ha
  rw [hs] at k
  have h1 := S.1
  unfold pm_arr hs_aI
  dsimp only
  rw [decide_eq_true (show a < h.1 by omega)]
  cases hc : h.2.2 a with
  | inr x =>
    rw [hc] at k
    obtain ⟨k1, k2, k3⟩ := k
    exfalso
    dsimp only at k1
    omega
  | inl x =>
    rw [hc] at k
    obtain ⟨t, m, A⟩ := x
    obtain ⟨k1, k2, k3⟩ := k
    dsimp only at k1 k2 k3 ⊢
    subst k1
    subst k2
    obtain ⟨f, hf⟩ := k3
    dsimp only at hf
    subst hf
    rfl
end SHP
