/-! THE MODEL'S READER as a machine on tokens: (turn, where, leaves, pile, code); turns: 0 a plain, 1 a part, 2 behind a test, 3 behind a sum, 4 over, 5 the fault. -/
section PDM
def md_k (F : Nat → Int32) (T s : Nat) : Nat := bif decide (T ≤ s) then 0 else bif xt_lt F s then 1 else bif xt_dg F s then 2 else 3
def md_v (F : Nat → Int32) (T s : Nat) : Int := match md_k F T s with
  | 1 => xt_wh F s (xt_E F T s - s)
  | 2 => xt_dv F s (xt_E F T s - s)
  | 3 => (F s).toInt
  | _ => 0
def md_W (F : Nat → Int32) (T s : Nat) (c : Int) : Bool := decide (md_k F T s = 1) && decide (md_v F T s = c)
def md_G (F : Nat → Int32) (T s : Nat) (c : Int) : Bool := decide (md_k F T s = 3) && decide (md_v F T s = c)
/-- digits, lo to hi -/
def md_D (F : Nat → Int32) (T s : Nat) (lo hi : Int) : Bool := decide (md_k F T s = 2) && (decide (lo ≤ md_v F T s) && decide (md_v F T s ≤ hi))
def md_at (F : Nat → Int32) (T s : Nat) : List Int → Nat → Nat → Nat
  | [], _, a => a
  | c :: r, k, a => md_at F T s r (k + 1) (bif md_W F T s c then k + 1 else a)
def md_lw : List Int := [239180, 659111367, 21285028, 820804, 8554201, 13988, 4400, 658813107, 278194, 441828]
def md_ow : List Int := [278194, 146885, 404362868, 198277, 17171557, 4400, 21285028]
/-- which word it is (0: none) -/
def md_p (F : Nat → Int32) (T s : Nat) (ord : Bool) : Nat := md_at F T s (bif ord then md_ow else md_lw) 0 0
/-- + - * / % -/
def md_s (F : Nat → Int32) (T s : Nat) : Nat := bif md_G F T s 43 then 20 else bif md_G F T s 45 then 21 else bif md_G F T s 42 then 22 else bif md_G F T s 47 then 23 else bif md_G F T s 37 then 24 else 0
/-- < > = -/
def md_c (F : Nat → Int32) (T s : Nat) : Nat := bif md_G F T s 60 then 25 else bif md_G F T s 62 then 26 else bif md_G F T s 61 then 27 else 0
abbrev pd_M : Type := Nat × Nat × Nat × pd_P × pd_K
def pd_br : pd_P → Nat
  | [] => 0
  | q :: r => bif decide (31 ≤ q.1) then pd_br r + 1 else pd_br r
def pd_in : pd_P → Nat
  | [] => 0
  | q :: r => bif decide (31 ≤ q.1) then q.1 else pd_in r
def pd_cm : pd_P → Bool
  | [] => false
  | q :: r => bif decide (20 ≤ q.1) && decide (q.1 ≤ 24) then pd_cm r else decide (25 ≤ q.1) && decide (q.1 ≤ 27)
def pd_part (F : Nat → Int32) (T : Nat) (ord : Bool) (s lv : Nat) (P : pd_P) (c : pd_K) : pd_M :=
  bif md_G F T s 91 then (bif decide (pd_br P < 8) then (1, xt_N F T s, lv, (32, 0) :: P, c) else (5, s, lv, P, c))
  else bif (!(md_p F T s ord == 0) || (decide (md_k F T s = 2) && decide (md_v F T s ≤ 1000))) && decide (lv < 50) then
    (bif ord && decide (6 ≤ md_p F T s ord) then (bif md_D F T (xt_N F T s) 0 7 then (3, xt_N F T (xt_N F T s), lv + 1, P, pd_e c (md_p F T s ord) (md_v F T (xt_N F T s))) else (5, xt_N F T s, lv + 1, P, c))
     else (3, xt_N F T s, lv + 1, P, pd_e c (md_p F T s ord) (bif decide (md_k F T s = 2) && decide (md_v F T s ≤ 1000) then md_v F T s else 0)))
  else (5, s, lv, P, c)
def pd_ms (F : Nat → Int32) (T : Nat) (ord tst : Bool) : pd_M → pd_M
  | (0, s, lv, P, c) => bif md_W F T s 14836 then (0, xt_N F T s, lv, (28, 0) :: P, c) else bif md_G F T s 40 then (bif decide (pd_br P < 8) then (0, xt_N F T s, lv, (31, 0) :: P, c) else (5, s, lv, P, c)) else pd_part F T ord s lv P c
  | (1, s, lv, P, c) => pd_part F T ord s lv P c
  | (2, s, lv, P, c) => bif md_W F T s 1476 || md_W F T s 498 then
      (0, xt_N F T s, lv, (bif md_W F T s 1476 then 29 else 30, (pd_se (bif md_W F T s 1476 then 2 else 1) P c).2.1) :: (pd_se (bif md_W F T s 1476 then 2 else 1) P c).1, pd_e (pd_se (bif md_W F T s 1476 then 2 else 1) P c).2 (bif md_W F T s 1476 then 29 else 30) 0)
    else bif pd_in P == 0 then (4, s, lv, P, c) else bif md_G F T s 41 then (2, xt_N F T s, lv, (pd_se 1 P c).1.tail, (pd_se 1 P c).2) else (5, s, lv, P, c)
  | (3, s, lv, P, c) => bif !(md_s F T s == 0) then (1, xt_N F T s, lv, (md_s F T s, 0) :: (pd_se (pd_b (md_s F T s)) P c).1, (pd_se (pd_b (md_s F T s)) P c).2)
    else bif pd_in P == 32 then (bif md_G F T s 93 then (3, xt_N F T s, lv, (pd_se 5 P c).1.tail, (pd_se 5 P c).2) else (5, s, lv, P, c))
    else bif (pd_in P == 0) && !tst then (4, s, lv, P, c)
    else bif pd_cm P then (2, s, lv, P, c)
    else bif !(md_c F T s == 0) then (1, xt_N F T s, lv, (md_c F T s, 0) :: (pd_se 5 P c).1, (pd_se 5 P c).2) else (5, s, lv, P, c)
  | m => m
def pd_it (F : Nat → Int32) (T : Nat) (ord tst : Bool) : Nat → pd_M → pd_M
  | 0, m => m
  | n + 1, m => pd_it F T ord tst n (pd_ms F T ord tst m)
def pd_R (F : Nat → Int32) (T : Nat) (ord tst : Bool) (m m' : pd_M) : Prop := ∃ n, pd_it F T ord tst n m = m'
theorem pd_R.refl {F : Nat → Int32} {T : Nat} {ord tst : Bool} {m : pd_M} : pd_R F T ord tst m m := ⟨0, rfl⟩
theorem pd_R.one {F : Nat → Int32} {T : Nat} {ord tst : Bool} {m m' : pd_M} (h : pd_ms F T ord tst m = m') : pd_R F T ord tst m m' := ⟨1, h⟩
theorem pd_it_add {F : Nat → Int32} {T : Nat} {ord tst : Bool} : ∀ {a b : Nat} {m : pd_M}, pd_it F T ord tst (a + b) m = pd_it F T ord tst b (pd_it F T ord tst a m) := by
  intro a
  induction a with
  | zero => intro b m; rw [Nat.zero_add]; rfl
  | succ a ih => intro b m; rw [show a + 1 + b = (a + b) + 1 by omega]; exact ih
theorem pd_R.tr {F : Nat → Int32} {T : Nat} {ord tst : Bool} {m m' m'' : pd_M} (h : pd_R F T ord tst m m') (h' : pd_R F T ord tst m' m'') : pd_R F T ord tst m m'' := by
  obtain ⟨a, rfl⟩ := h
  obtain ⟨b, rfl⟩ := h'
  exact ⟨a + b, pd_it_add⟩
theorem pd_R.st {F : Nat → Int32} {T : Nat} {ord tst : Bool} {m m' m'' : pd_M} (h : pd_R F T ord tst m m') (h' : pd_ms F T ord tst m' = m'') : pd_R F T ord tst m m'' := h.tr (pd_R.one h')
/-- one sign, one word alone -/
theorem md_G1 {F : Nat → Int32} {T s : Nat} {a b : Int} (h : md_G F T s a = true) (n : a ≠ b) : md_G F T s b = false := by
  unfold md_G at h ⊢
  rw [Bool.and_eq_true, decide_eq_true_eq, decide_eq_true_eq] at h
  rw [h.1, h.2, decide_eq_false n, Bool.and_false]
theorem md_W1 {F : Nat → Int32} {T s : Nat} {a b : Int} (h : md_W F T s a = true) (n : a ≠ b) : md_W F T s b = false := by
  unfold md_W at h ⊢
  rw [Bool.and_eq_true, decide_eq_true_eq, decide_eq_true_eq] at h
  rw [h.1, h.2, decide_eq_false n, Bool.and_false]
theorem md_GW {F : Nat → Int32} {T s : Nat} {a b : Int} (h : md_G F T s a = true) : md_W F T s b = false := by
  unfold md_G at h
  unfold md_W
  rw [Bool.and_eq_true, decide_eq_true_eq] at h
  rw [h.1]
  rfl
theorem md_WG {F : Nat → Int32} {T s : Nat} {a b : Int} (h : md_W F T s a = true) : md_G F T s b = false := by
  unfold md_W at h
  unfold md_G
  rw [Bool.and_eq_true, decide_eq_true_eq] at h
  rw [h.1]
  rfl
/-- pe has no bracket; it is of sums alone -/
def pd_nb (pe : pd_P) : Prop := ∀ q, q ∈ pe → q.1 < 31
def pd_ar (pe : pd_P) : Prop := ∀ q, q ∈ pe → 20 ≤ q.1 ∧ q.1 ≤ 24
theorem pd_ar.nb {pe : pd_P} (h : pd_ar pe) : pd_nb pe := fun q hq => by have := h q hq; omega
theorem pd_in_app {P : pd_P} : ∀ {pe : pd_P}, pd_nb pe → pd_in (pe ++ P) = pd_in P := by
  intro pe
  induction pe with
  | nil => intro _; rfl
  | cons q r ih =>
    intro h
    show (bif decide (31 ≤ q.1) then q.1 else pd_in (r ++ P)) = _
    have := h q (List.mem_cons_self ..)
    rw [decide_eq_false (by omega)]
    exact ih (fun x hx => h x (List.mem_cons_of_mem _ hx))
theorem pd_br_app {P : pd_P} : ∀ {pe : pd_P}, pd_nb pe → pd_br (pe ++ P) = pd_br P := by
  intro pe
  induction pe with
  | nil => intro _; rfl
  | cons q r ih =>
    intro h
    show (bif decide (31 ≤ q.1) then pd_br (r ++ P) + 1 else pd_br (r ++ P)) = _
    have := h q (List.mem_cons_self ..)
    rw [decide_eq_false (by omega)]
    exact ih (fun x hx => h x (List.mem_cons_of_mem _ hx))
theorem pd_cm_app {P : pd_P} : ∀ {pe : pd_P}, pd_ar pe → pd_cm (pe ++ P) = pd_cm P := by
  intro pe
  induction pe with
  | nil => intro _; rfl
  | cons q r ih =>
    intro h
    show (bif decide (20 ≤ q.1) && decide (q.1 ≤ 24) then pd_cm (r ++ P) else _) = _
    have k := h q (List.mem_cons_self ..)
    rw [decide_eq_true k.1, decide_eq_true k.2]
    exact ih (fun x hx => h x (List.mem_cons_of_mem _ hx))
theorem pd_b_ar {q : Nat} (h : 20 ≤ q ∧ q ≤ 24) : 5 ≤ pd_b q := by
  unfold pd_b
  repeat' split
  all_goals omega
end PDM
