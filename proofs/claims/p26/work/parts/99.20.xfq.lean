/-! WHAT A TOKEN IS: the class's question and the model's -/
section XFQ
theorem md_k_p {F : Nat → Int32} {T s : Nat} : (md_k F T s = 1 → s < T ∧ xt_lt F s = true) ∧ (md_k F T s = 2 → s < T ∧ xt_lt F s = false ∧ xt_dg F s = true) ∧ (md_k F T s = 3 → s < T ∧ xt_lt F s = false ∧ xt_dg F s = false) := by
  unfold md_k
  by_cases h : T ≤ s
  · rw [decide_eq_true h]
    exact ⟨fun e => (by cases e), fun e => (by cases e), fun e => (by cases e)⟩
  · rw [decide_eq_false h]
    cases xt_lt F s with
    | true => exact ⟨fun _ => ⟨by omega, rfl⟩, fun e => (by cases e), fun e => (by cases e)⟩
    | false =>
      cases xt_dg F s with
      | true => exact ⟨fun e => (by cases e), fun _ => ⟨by omega, rfl, rfl⟩, fun e => (by cases e)⟩
      | false => exact ⟨fun e => (by cases e), fun e => (by cases e), fun _ => ⟨by omega, rfl, rfl⟩⟩
theorem md_k_1 {F : Nat → Int32} {T s : Nat} (h : s < T) (hl : xt_lt F s = true) : md_k F T s = 1 := by
  unfold md_k
  rw [decide_eq_false (by omega), hl]
  rfl
theorem md_k_2 {F : Nat → Int32} {T s : Nat} (h : s < T) (hl : xt_lt F s = false) (hd : xt_dg F s = true) : md_k F T s = 2 := by
  unfold md_k
  rw [decide_eq_false (by omega), hl, hd]
  rfl
theorem md_k_3 {F : Nat → Int32} {T s : Nat} (h : s < T) (hl : xt_lt F s = false) (hd : xt_dg F s = false) : md_k F T s = 3 := by
  unfold md_k
  rw [decide_eq_false (by omega), hl, hd]
  rfl
theorem md_v_1 {F : Nat → Int32} {T s : Nat} (h : md_k F T s = 1) : md_v F T s = xt_wh F s (xt_E F T s - s) := by
  unfold md_v
  simp only [h]
theorem md_v_2 {F : Nat → Int32} {T s : Nat} (h : md_k F T s = 2) : md_v F T s = xt_dv F s (xt_E F T s - s) := by
  unfold md_v
  simp only [h]
theorem md_v_3 {F : Nat → Int32} {T s : Nat} (h : md_k F T s = 3) : md_v F T s = (F s).toInt := by
  unfold md_v
  simp only [h]
theorem md_G_is {F : Nat → Int32} {T s : Nat} {c : Int} (h1 : c < 97 ∨ 122 < c) (h2 : c < 48 ∨ 57 < c) : xt_is F s (xt_E F T s) [c] ↔ md_G F T s c = true := by
  constructor
  · rintro ⟨h, q⟩
    have h : xt_E F T s = s + 1 := h
    have q : (F (s + 0)).toInt = c := q 0 (Nat.zero_lt_one)
    rw [Nat.add_zero] at q
    have hs : s < T := by
      by_cases p : s < T
      · exact p
      · rw [xt_E_e p] at h; omega
    have k3 := md_k_3 hs (xt_lt0 (F := F) (i := s) (by omega)) (xt_dg0 (F := F) (i := s) (by omega))
    unfold md_G
    rw [k3, md_v_3 k3, q]
    simp
  · intro h
    unfold md_G at h
    rw [Bool.and_eq_true, decide_eq_true_eq, decide_eq_true_eq] at h
    obtain ⟨a1, a2, a3⟩ := md_k_p.2.2 h.1
    refine ⟨xt_E_s a1 a2 a3, fun i hi => ?_⟩
    have hi : i < 1 := hi
    obtain rfl : i = 0 := by omega
    rw [Nat.add_zero, ← md_v_3 h.1]
    exact h.2
theorem xt_E_lt {F : Nat → Int32} {T s : Nat} (h : s < T) (hl : xt_lt F s = true) : ∀ i, s ≤ i → i < xt_E F T s → xt_lt F i = true := by
  unfold xt_E
  rw [decide_eq_true h, hl]
  exact fun i h1 h2 => ((xt_wp (p := xt_lt F) (T := T) (n := T - s) (i := s) (by omega)).2.1 i h1 h2).2
theorem xt_E_dg {F : Nat → Int32} {T s : Nat} (h : s < T) (hl : xt_lt F s = false) (hd : xt_dg F s = true) : ∀ i, s ≤ i → i < xt_E F T s → xt_dg F i = true := by
  unfold xt_E
  rw [decide_eq_true h, hl, hd]
  exact fun i h1 h2 => ((xt_wp (p := xt_dg F) (T := T) (n := T - s) (i := s) (by omega)).2.1 i h1 h2).2
theorem xt_ltp {F : Nat → Int32} {i : Nat} (h : xt_lt F i = true) : 97 ≤ (F i).toInt ∧ (F i).toInt ≤ 122 := by
  unfold xt_lt at h
  rw [Bool.and_eq_true, decide_eq_true_eq, decide_eq_true_eq] at h
  exact h
theorem xt_dgp {F : Nat → Int32} {i : Nat} (h : xt_dg F i = true) : 48 ≤ (F i).toInt ∧ (F i).toInt ≤ 57 := by
  unfold xt_dg at h
  rw [Bool.and_eq_true, decide_eq_true_eq, decide_eq_true_eq] at h
  exact h
def xs_lwB (w : List Int) : Bool := w.all (fun c => decide (97 ≤ c) && decide (c ≤ 122)) && (decide (0 < w.length) && decide (w.length ≤ 10))
theorem xs_lwp {w : List Int} (h : xs_lwB w = true) : xt_lw w ∧ 0 < w.length ∧ w.length ≤ 10 := by
  unfold xs_lwB at h
  rw [Bool.and_eq_true, Bool.and_eq_true, decide_eq_true_eq, decide_eq_true_eq] at h
  refine ⟨fun i hi => ?_, h.2⟩
  have q := List.all_eq_true.mp h.1 (w[i]'hi) (List.getElem_mem hi)
  rw [List.getD_eq_getElem?_getD, List.getElem?_eq_getElem hi]
  rw [Bool.and_eq_true, decide_eq_true_eq, decide_eq_true_eq] at q
  exact q
def xs_h (w : List Int) : Int := xt_h (fun i => w.getD i 0) w.length
theorem md_W_is {F : Nat → Int32} {T s : Nat} {w : List Int} (hs : s ≤ T) (hw : xs_lwB w = true) : xt_is F s (xt_E F T s) w ↔ md_W F T s (xs_h w) = true := by
  obtain ⟨w1, w2, w3⟩ := xs_lwp hw
  have hE := xt_E_p (F := F) hs
  constructor
  · intro q
    have h : s < T := by
      by_cases p : s < T
      · exact p
      · have := q.1
        rw [xt_E_e p] at this
        omega
    have q0 := q.2 0 w2
    have l0 := w1 0 w2
    rw [Nat.add_zero] at q0
    have hl : xt_lt F s = true := xt_lt1 (by omega) (by omega)
    have k1 := md_k_1 h hl
    unfold md_W
    rw [k1, md_v_1 k1, (xt_word (e := xt_E F T s) hE.1 (fun i h1 h2 => xt_ltp (xt_E_lt h hl i h1 h2)) w1 w2 w3).mpr q]
    simp [xs_h]
  · intro h
    unfold md_W at h
    rw [Bool.and_eq_true, decide_eq_true_eq, decide_eq_true_eq] at h
    obtain ⟨a1, a2⟩ := md_k_p.1 h.1
    rw [md_v_1 h.1] at h
    exact (xt_word hE.1 (fun i h1 h2 => xt_ltp (xt_E_lt a1 a2 i h1 h2)) w1 w2 w3).mp h.2
/-- the question that a String of one word or sign asks -/
def xs_q (F : Nat → Int32) (T s k : Nat) : Bool := match k with
  | 1 => md_W F T s 14836
  | 2 => md_G F T s 40
  | 3 => md_G F T s 41
  | 4 => md_G F T s 60
  | 5 => md_G F T s 62
  | 6 => md_G F T s 61
  | 7 => md_G F T s 91
  | 8 => md_G F T s 93
  | 11 => md_W F T s 498
  | 12 => md_W F T s 1476
  | 13 => md_G F T s 43
  | 14 => md_G F T s 45
  | 15 => md_G F T s 42
  | 16 => md_G F T s 47
  | 17 => md_G F T s 37
  | 19 => md_W F T s 52
  | 20 => md_W F T s 21279923
  | 21 => md_W F T s 294
  | 22 => md_G F T s 59
  | _ => false
def xs_ok (k : Nat) : Bool := [1, 2, 3, 4, 5, 6, 7, 8, 11, 12, 13, 14, 15, 16, 17, 19, 20, 21, 22].contains k
theorem xs_q_is {F : Nat → Int32} {T s k : Nat} (hs : s ≤ T) (hk : xs_ok k = true) : xt_is F s (xt_E F T s) (xs_w k) ↔ xs_q F T s k = true := by
  have hk : k ∈ [1, 2, 3, 4, 5, 6, 7, 8, 11, 12, 13, 14, 15, 16, 17, 19, 20, 21, 22] := by
    unfold xs_ok at hk
    rw [List.contains_iff_mem] at hk
    exact hk
  simp only [List.mem_cons, List.not_mem_nil, or_false] at hk
  rcases hk with rfl | rfl | rfl | rfl | rfl | rfl | rfl | rfl | rfl | rfl | rfl | rfl | rfl | rfl | rfl | rfl | rfl | rfl | rfl
  · exact md_W_is (w := [110, 111, 116]) hs (by decide)
  · exact md_G_is (c := 40) (by decide) (by decide)
  · exact md_G_is (c := 41) (by decide) (by decide)
  · exact md_G_is (c := 60) (by decide) (by decide)
  · exact md_G_is (c := 62) (by decide) (by decide)
  · exact md_G_is (c := 61) (by decide) (by decide)
  · exact md_G_is (c := 91) (by decide) (by decide)
  · exact md_G_is (c := 93) (by decide) (by decide)
  · exact md_W_is (w := [111, 114]) hs (by decide)
  · exact md_W_is (w := [97, 110, 100]) hs (by decide)
  · exact md_G_is (c := 43) (by decide) (by decide)
  · exact md_G_is (c := 45) (by decide) (by decide)
  · exact md_G_is (c := 42) (by decide) (by decide)
  · exact md_G_is (c := 47) (by decide) (by decide)
  · exact md_G_is (c := 37) (by decide) (by decide)
  · exact md_W_is (w := [97, 116]) hs (by decide)
  · exact md_W_is (w := [116, 105, 109, 101, 115]) hs (by decide)
  · exact md_W_is (w := [105, 102]) hs (by decide)
  · exact md_G_is (c := 59) (by decide) (by decide)
theorem xt_is_i {F : Nat → Int32} {s e k : Nat} (he : (e : Int) = s + ty_sn k) (h : ∀ j : Nat, (j : Int) < ty_sn k → (F (s + j)).toInt = (xq_sb k j).toInt) : xt_is F s e (xs_w k) := by
  have l := xs_wl (k := k)
  exact ⟨by omega, fun i hi => by rw [xs_wi hi]; exact h i (by omega)⟩
theorem xt_is_n1 {F : Nat → Int32} {s e k : Nat} (he : (e : Int) ≠ s + ty_sn k) : ¬ xt_is F s e (xs_w k) := fun q => by
  have l := xs_wl (k := k)
  have := q.1
  omega
theorem xt_is_n2 {F : Nat → Int32} {s e k j : Nat} (hj : (j : Int) < ty_sn k) (hn : (F (s + j)).toInt ≠ (xq_sb k j).toInt) : ¬ xt_is F s e (xs_w k) := fun q => by
  have l := xs_wl (k := k)
  have hl : j < (xs_w k).length := by omega
  exact hn ((q.2 j hl).trans (xs_wi hl))
theorem xs_q1 {F : Nat → Int32} {T s k : Nat} (hs : s ≤ T) (hk : xs_ok k = true) (h : xt_is F s (xt_E F T s) (xs_w k)) : xs_q F T s k = true := (xs_q_is hs hk).mp h
theorem xs_q0 {F : Nat → Int32} {T s k : Nat} (hs : s ≤ T) (hk : xs_ok k = true) (h : ¬ xt_is F s (xt_E F T s) (xs_w k)) : xs_q F T s k = false := by
  cases q : xs_q F T s k with
  | false => rfl
  | true => exact absurd ((xs_q_is hs hk).mpr q) h
/-- the number that the class reads here -/
def xn_h (F : Nat → Int32) (T s : Nat) : Int := bif decide (md_k F T s = 2) then xt_cv F s (xt_E F T s - s) else -1
theorem xt_cv_big {F : Nat → Int32} {s n : Nat} (h : 1000 < xt_cv F s n) : ∀ m, xt_cv F s (n + m) = xt_cv F s n
  | 0 => rfl
  | m + 1 => by
    have e : xt_cv F s (n + (m + 1)) = if xt_cv F s (n + m) ≤ 1000 then xt_cv F s (n + m) * 10 + (F (s + (n + m))).toInt - 48 else xt_cv F s (n + m) := rfl
    rw [e, xt_cv_big h m, if_neg (by omega)]
end XFQ
