/-! the state behind the constructors -/
def ev_s1 : ev_S := (16, [(6, 200), (2, 0), (2, 97), (3, 0)], [], (129, 30526, [[.inr (10, [(2, 1), (2, 12), (2, 23), (2, 34), (2, 57), (2, 58), (2, 60), (2, 62), (2, 72), (2, 76), (2, 86), (2, 92), (2, 94), (2, 96), (0, 0), (0, 0)]),
    .inr (8, [(0, 0), (2, 2), (2, 3), (0, 0), (2, 4), (2, 5), (2, 6), (2, 7), (0, 0), (0, 0), (0, 0), (2, 8), (2, 9), (2, 10), (0, 0), (2, 11), (0, 4294967295)]),
    .inl (0, 8, 0, []),
    .inl (0, 8, 0, []),
    .inl (0, 8, 0, []),
    .inl (0, 8, 0, []),
    .inl (0, 8, 0xffffffffffffffffffffffffffffffffffffffffffffffffffffffffffffffff, []),
    .inl (0, 36, 0xffffffffffffffffffffffffffffffffffffffffffffffffffffffffffffffffffffffffffffffffffffffffffffffffffffffffffffffffffffffffffffffffffffffffffffffffffffffffffffffffffffffffffffffffffffffffffffffffffffffffffffffffffffffffffffffffffffffffffffffffffffffffffffffffffffffffffffffffffffffffffffffff, []),
    .inl (0, 6, 0, []),
    .inl (0, 6, 0, []),
    .inl (0, 3, 0x100000000, []),
    .inl (3, 6, 0, []),
    .inr (8, [(0, 0), (2, 13), (2, 14), (0, 0), (2, 15), (2, 16), (2, 17), (2, 18), (0, 0), (0, 0), (0, 0), (2, 19), (2, 20), (2, 21), (0, 0), (2, 22), (0, 4294967295)]),
    .inl (0, 8, 0, []),
    .inl (0, 8, 0, []),
    .inl (0, 8, 0, [])],
  [.inl (0, 8, 0, []),
    .inl (0, 8, 0xffffffffffffffffffffffffffffffffffffffffffffffffffffffffffffffff, []),
    .inl (0, 36, 0xffffffffffffffffffffffffffffffffffffffffffffffffffffffffffffffffffffffffffffffffffffffffffffffffffffffffffffffffffffffffffffffffffffffffffffffffffffffffffffffffffffffffffffffffffffffffffffffffffffffffffffffffffffffffffffffffffffffffffffffffffffffffffffffffffffffffffffffffffffffffffffffff, []),
    .inl (0, 6, 0, []),
    .inl (0, 6, 0, []),
    .inl (0, 3, 0x100000000, []),
    .inl (3, 6, 0, []),
    .inr (8, [(0, 0), (2, 24), (2, 25), (0, 0), (2, 26), (2, 27), (2, 28), (2, 29), (0, 0), (0, 0), (0, 0), (2, 30), (2, 31), (2, 32), (0, 0), (2, 33), (0, 4294967295)]),
    .inl (0, 8, 0, []),
    .inl (0, 8, 0, []),
    .inl (0, 8, 0, []),
    .inl (0, 8, 0, []),
    .inl (0, 8, 0xffffffffffffffffffffffffffffffffffffffffffffffffffffffffffffffff, []),
    .inl (0, 36, 0xffffffffffffffffffffffffffffffffffffffffffffffffffffffffffffffffffffffffffffffffffffffffffffffffffffffffffffffffffffffffffffffffffffffffffffffffffffffffffffffffffffffffffffffffffffffffffffffffffffffffffffffffffffffffffffffffffffffffffffffffffffffffffffffffffffffffffffffffffffffffffffffff, []),
    .inl (0, 6, 0, []),
    .inl (0, 6, 0, [])],
  [.inl (0, 3, 0x100000000, []),
    .inl (3, 6, 0, []),
    .inl (4, 2, 0x2f00000024, []),
    .inr (8, [(0, 0), (2, 36), (2, 37), (0, 0), (2, 38), (2, 39), (2, 40), (2, 41), (0, 0), (0, 0), (0, 0), (2, 42), (2, 43), (2, 44), (0, 0), (2, 45), (0, 4294967295)]),
    .inl (0, 8, 0, []),
    .inl (0, 8, 0, []),
    .inl (0, 8, 0, []),
    .inl (0, 8, 0, []),
    .inl (0, 8, 0xffffffffffffffffffffffffffffffffffffffffffffffffffffffffffffffff, []),
    .inl (0, 36, 0xffffffffffffffffffffffffffffffffffffffffffffffffffffffffffffffffffffffffffffffffffffffffffffffffffffffffffffffffffffffffffffffffffffffffffffffffffffffffffffffffffffffffffffffffffffffffffffffffffffffffffffffffffffffffffffffffffffffffffffffffffffffffffffffffffffffffffffffffffffffffffffffff, []),
    .inl (0, 6, 0, []),
    .inl (0, 6, 0, []),
    .inl (0, 3, 0x100000000, []),
    .inl (3, 6, 0, []),
    .inr (8, [(0, 0), (2, 47), (2, 48), (0, 0), (2, 49), (2, 50), (2, 51), (2, 52), (0, 0), (0, 0), (0, 0), (2, 53), (2, 54), (2, 55), (0, 0), (2, 56), (0, 4294967295)]),
    .inl (0, 8, 0, [])],
  [.inl (0, 8, 0, []),
    .inl (0, 8, 0, []),
    .inl (0, 8, 0, []),
    .inl (0, 8, 0xffffffffffffffffffffffffffffffffffffffffffffffffffffffffffffffff, []),
    .inl (0, 36, 0xffffffffffffffffffffffffffffffffffffffffffffffffffffffffffffffffffffffffffffffffffffffffffffffffffffffffffffffffffffffffffffffffffffffffffffffffffffffffffffffffffffffffffffffffffffffffffffffffffffffffffffffffffffffffffffffffffffffffffffffffffffffffffffffffffffffffffffffffffffffffffffffff, []),
    .inl (0, 6, 0, []),
    .inl (0, 6, 0, []),
    .inl (0, 3, 0x100000000, []),
    .inl (3, 6, 0, []),
    .inl (2, 2, 0, []),
    .inr (5, [(2, 59), (0, 0), (0, 0)]),
    .inl (0, 448, 0, []),
    .inr (5, [(2, 61), (0, 0), (0, 0)]),
    .inl (0, 448, 0, []),
    .inr (3, [(2, 63), (0, 0), (0, 4294967295), (0, 0), (0, 0), (0, 0), (0, 0), (2, 64)]),
    .inl (0, 400, 0, [])],
  [.inr (7, [(0, 0), (2, 65), (2, 66), (2, 67), (2, 68), (2, 69), (0, 0), (2, 70), (2, 71), (0, 0)]),
    .inl (0, 12, 0, []),
    .inl (0, 12, 0, []),
    .inl (0, 12, 0, []),
    .inl (0, 12, 0, []),
    .inl (0, 12, 0, []),
    .inl (0, 400, 0, []),
    .inl (0, 400, 0, []),
    .inr (4, [(2, 73), (2, 75)]),
    .inr (6, [(2, 74)]),
    .inl (1, 51, 0, []),
    .inl (0, 10, 0, []),
    .inr (1, [(2, 77), (2, 81), (2, 83), (2, 84), (2, 85), (0, 4294967295)]),
    .inr (4, [(2, 78), (2, 80)]),
    .inr (6, [(2, 79)]),
    .inl (1, 51, 0, [])],
  [.inl (0, 10, 0, []),
    .inr (6, [(2, 82)]),
    .inl (1, 51, 0, []),
    .inl (0, 21, 0, []),
    .inl (0, 8, 0, []),
    .inl (0, 8, 0, []),
    .inr (0, [(2, 87), (2, 88), (2, 89), (2, 90), (0, 0), (2, 91)]),
    .inl (0, 37, 0xc0000000a00000009000000088000000840000008200000081000000800000006000000050000000480000004400000042000000410000004000000030000000280000002400000022000000210000002000000018000000140000001200000011000000100000000c0000000a000000090000000800000006000000050000000400000003000000020000000100000000, []),
    .inl (0, 296, 0, []),
    .inl (0, 2304, 0, []),
    .inl (0, 8, 0, []),
    .inl (0, 8, 0, []),
    .inr (2, [(2, 93)]),
    .inl (0, 64, 0, []),
    .inr (9, [(2, 95)]),
    .inl (0, 6, 0, [])],
  [.inl (0, 7, 0, []),
    .inr (11, [(0, 0), (0, 0), (2, 98), (2, 99), (2, 100), (2, 101), (2, 102), (2, 103), (0, 0), (2, 104), (2, 105), (0, 0), (2, 106), (0, 0), (0, 0), (0, 0), (0, 0), (1, 0), (0, 4294967295), (0, 0), (0, 0), (0, 0), (2, 107), (0, 0), (2, 108), (2, 109), (0, 0), (2, 110), (2, 111), (0, 0), (0, 0), (2, 112), (2, 113), (2, 114), (0, 0), (2, 115), (2, 116), (2, 117), (0, 0), (1, 0), (1, 0), (2, 118), (2, 119), (2, 120), (2, 121), (2, 122), (2, 123), (2, 124), (2, 125), (2, 126), (2, 127), (0, 0), (0, 0), (0, 4294967295), (0, 0), (1, 0), (2, 128), (0, 4294967295), (0, 4294967295)]),
    .inl (0, 7, 0, []),
    .inl (0, 5498, 0xffffffffffffffffffffffffffffffffffffffffffffffffffffffffffffffffffffffffffffffffffffffffffffffffffffffffffffffffffffffffffffffffffffffffffffffffffffffffffffffffffffffffffffffffffffffffffffffffffffffffffffffffffffffffffffffffffffffffffffffffffffffffffffffffffffffffffffffffffffffffffffffff000000000000000000000000000000000000000000000000000000000000000000000000000000000000000000000000000000000000000000000000000000000000000000000000000000000000000000000000000000000000000000000000000000000000000000000000000000000000000000000000000000000000000000000000000000000000000000000000000000000000000000000000000000000000000000000000000000000000000100000000ffffffff00000000000000000000000000000000, []),
    .inl (0, 10996, 0, []),
    .inl (2, 2, 0, []),
    .inl (0, 522, 0, []),
    .inl (0, 16, 0, []),
    .inl (0, 464, 0, []),
    .inl (0, 16, 0, []),
    .inl (0, 400, 0, []),
    .inl (0, 96, 0, []),
    .inl (0, 400, 0, []),
    .inl (0, 400, 0, []),
    .inl (0, 400, 0, []),
    .inl (0, 400, 0, [])],
  [.inl (1, 10, 0x6bde40000000000043eb2000000002744b0b3000000000000113000000000000036a400000000008286d900000000000c8644000000000144c8a40000000027493dc7000000000003a64c, []),
    .inl (1, 7, 0x144c8a400000000000011300000000001060465000000000003068500000000181a16740000000000023dc50000000000043eb2, []),
    .inl (1, 4, 0x10653000000000524b8f3000000000144c8b30000000000c49a93, []),
    .inl (1, 13, 0, []),
    .inl (1, 13, 0, []),
    .inl (1, 400, 0, []),
    .inl (0, 8, 0, []),
    .inl (0, 8, 0, []),
    .inl (0, 2048, 0, []),
    .inl (0, 2304, 0, []),
    .inl (0, 64, 0, []),
    .inl (2, 64, 0, []),
    .inl (0, 41, 0, []),
    .inl (0, 6, 0, []),
    .inl (1, 4, 0x9167400000000000b858b00000000000249f00000000000043d84, []),
    .inl (0, 96, 0, [])],
  [.inl (0, 29, 0, []),
    .inr (0, []),
    .inr (0, []),
    .inr (0, []),
    .inr (0, []),
    .inr (0, []),
    .inr (0, []),
    .inr (0, []),
    .inr (0, []),
    .inr (0, []),
    .inr (0, []),
    .inr (0, []),
    .inr (0, []),
    .inr (0, []),
    .inr (0, []),
    .inr (0, [])],
  [.inr (0, []),
    .inr (0, []),
    .inr (0, []),
    .inr (0, []),
    .inr (0, []),
    .inr (0, []),
    .inr (0, []),
    .inr (0, []),
    .inr (0, []),
    .inr (0, []),
    .inr (0, []),
    .inr (0, []),
    .inr (0, []),
    .inr (0, []),
    .inr (0, []),
    .inr (0, [])]]))
def ev_eC (x y : ev_C) : Bool := match x, y with
  | .inl a, .inl b => decide (a = b)
  | .inr a, .inr b => decide (a = b)
  | _, _ => false
def ev_eL {α : Type} (f : α → α → Bool) : List α → List α → Bool
  | [], [] => true
  | x :: l, y :: m => f x y && ev_eL f l m
  | _, _ => false
theorem ev_eC_ok (x y : ev_C) (h : ev_eC x y = true) : x = y := by
  unfold ev_eC at h
  split at h
  · rw [of_decide_eq_true h]
  · rw [of_decide_eq_true h]
  · cases h
theorem ev_eL_ok {α : Type} {f : α → α → Bool} (hf : ∀ x y, f x y = true → x = y) : ∀ (l m : List α), ev_eL f l m = true → l = m
  | [], [], _ => rfl
  | x :: l, y :: m, h => by
    have h : (f x y && ev_eL f l m) = true := h
    rw [Bool.and_eq_true] at h
    rw [hf x y h.1, ev_eL_ok hf l m h.2]
  | [], _ :: _, h => by cases h
  | _ :: _, [], h => by cases h
def ev_isS (x : ev_O) (t : ev_S) : Bool := match x with
  | some (.inl s) => decide (s.1 = t.1) && decide (s.2.1 = t.2.1) && decide (s.2.2.1 = t.2.2.1) && decide (s.2.2.2.1 = t.2.2.2.1) && decide (s.2.2.2.2.1 = t.2.2.2.2.1) && ev_eL (ev_eL ev_eC) s.2.2.2.2.2 t.2.2.2.2.2
  | _ => false
theorem ev_isS_ok {x : ev_O} {t : ev_S} (h : ev_isS x t = true) : x = some (.inl t) := by
  unfold ev_isS at h
  split at h
  · next s =>
    simp only [Bool.and_eq_true, decide_eq_true_eq] at h
    obtain ⟨⟨⟨⟨⟨h1, h2⟩, h3⟩, h4⟩, h5⟩, h6⟩ := h
    replace h6 := ev_eL_ok (ev_eL_ok ev_eC_ok) _ _ h6
    obtain ⟨s1, s2, s3, s4, s5, s6⟩ := s
    obtain ⟨t1, t2, t3, t4, t5, t6⟩ := t
    dsimp only at h1 h2 h3 h4 h5 h6
    subst h1; subst h2; subst h3; subst h4; subst h5; subst h6
    rfl
  · cases h
theorem ev_pre0 : ev_isS (ev_law (0, 0, []) 20 3 ev_s0) ev_s1 = true := by decide +kernel
theorem ev_pre : ev_law (0, 0, []) 20 3 ev_s0 = some (.inl ev_s1) := ev_isS_ok ev_pre0
theorem ev_small : (List.range 6).all (fun L => ev_fin (ev_law (L + 1, 0, []) 20 7 ev_s1)) = true := by decide +kernel
