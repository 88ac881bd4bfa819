/-! TESTS: comparisons, brackets, "not", chains of "and" and "or". -/
section PDT
theorem pd_R01 {F : Nat → Int32} {T : Nat} {ord tst : Bool} {s lv : Nat} {P : pd_P} {c : pd_K} {m : pd_M} (h : pd_R F T ord tst (1, s, lv, P, c) m) (ht : m.1 ≠ 1) (h1 : md_W F T s 14836 = false) (h2 : md_G F T s 40 = false) : pd_R F T ord tst (0, s, lv, P, c) m := by
  obtain ⟨n, rfl⟩ := h
  match n, ht with
  | 0, ht => exact absurd rfl ht
  | n + 1, _ =>
    refine ⟨n + 1, ?_⟩
    show pd_it F T ord tst n (bif md_W F T s 14836 then _ else bif md_G F T s 40 then _ else pd_part F T ord s lv P c) = pd_it F T ord tst n (pd_part F T ord s lv P c)
    rw [h1, h2]
    rfl
def xk_nt (F : Nat → Int32) (T l s : Nat) : Prop := (l ≤ 2 → md_W F T s 1476 = false) ∧ (l ≤ 1 → md_W F T s 498 = false)
/-- the class has read a test's piece (l: 1 a test, 2 a both, 3 a plain, 4 one without "not") -/
def xk_T0 (F : Nat → Int32) (T : Nat) (ord tst : Bool) (l d s lv : Nat) (k : pd_K) (ok : Bool) (s1 lv1 : Nat) (k1 : pd_K) : Prop :=
  (s ≤ s1 ∧ s1 ≤ T) ∧ (ok = true → lv < lv1 ∧ lv1 ≤ 50 ∧ k.1 ≤ k1.1 ∧ k1.1 + s ≤ k.1 + s1 ∧ pd_ag k.1 k k1) ∧ ∀ P c, pd_br P = d → pd_tp l P → xk_in tst P →
  (bif ok then ∃ pe c1 V, pd_R F T ord tst (0, s, lv, P, c) (2, s1, lv1, pe ++ P, c1) ∧ pd_ag c.1 c c1 ∧ pd_nb pe ∧ pd_pe ord l c.1 (lv1 - lv) pe c1 V ∧ dn (pc_g k1) k.1 k1.1 (lv1 - lv) V ∧ dn_01 V
   else ∃ lv2 P1 c1, pd_R F T ord tst (0, s, lv, P, c) (5, s1, lv2, P1, c1))
def xk_T (F : Nat → Int32) (T : Nat) (ord tst : Bool) (l d s lv : Nat) (k : pd_K) (ok : Bool) (s1 lv1 : Nat) (k1 : pd_K) : Prop := xk_T0 F T ord tst l d s lv k ok s1 lv1 k1 ∧ (ok = true → xk_nt F T l s1)
theorem xk_Tbad {F : Nat → Int32} {T : Nat} {ord tst : Bool} {l d s lv s1 lv1 : Nat} {k k1 : pd_K} (hs : s ≤ s1) (hT : s1 ≤ T) (hp : ∀ P c, pd_br P = d → pd_tp l P → xk_in tst P → ∃ lv2 P1 c1, pd_R F T ord tst (0, s, lv, P, c) (5, s1, lv2, P1, c1)) : xk_T0 F T ord tst l d s lv k false s1 lv1 k1 :=
  ⟨⟨hs, hT⟩, fun h => (by cases h), hp⟩
theorem md_c_lt {F : Nat → Int32} {T s o : Nat} (h : md_c F T s = o) (h0 : o ≠ 0) : s < T ∧ 25 ≤ o ∧ o ≤ 27 := by
  unfold md_c at h
  cases h1 : md_G F T s 60 with
  | true => rw [h1] at h; have h : 25 = o := h; exact ⟨md_G_lt h1, by omega, by omega⟩
  | false =>
    cases h2 : md_G F T s 62 with
    | true => rw [h1, h2] at h; have h : 26 = o := h; exact ⟨md_G_lt h2, by omega, by omega⟩
    | false =>
      cases h3 : md_G F T s 61 with
      | true => rw [h1, h2, h3] at h; have h : 27 = o := h; exact ⟨md_G_lt h3, by omega, by omega⟩
      | false => rw [h1, h2, h3] at h; have h : 0 = o := h; omega
theorem pd_tp.le {l l' : Nat} {P : pd_P} (h : pd_tp l P) (hl : l ≤ l') : pd_tp l' P := fun q r e => Nat.lt_of_lt_of_le (h q r e) hl
theorem pd_tp4_cm {P : pd_P} (h : pd_tp 4 P) : pd_cm P = false := by
  cases P with
  | nil => rfl
  | cons q r =>
    have k := h q r rfl
    show (bif decide (20 ≤ q.1) && decide (q.1 ≤ 24) then _ else _) = false
    have n1 : ¬ (20 ≤ q.1 ∧ q.1 ≤ 27) := by
      intro p
      unfold pd_b at k
      rw [if_neg (by omega), if_neg (by omega), if_neg (by omega), if_neg (by omega)] at k
      split at k
      · omega
      · split at k <;> omega
    have e1 : (decide (20 ≤ q.1) && decide (q.1 ≤ 24)) = false := by
      rw [Bool.and_eq_false_iff, decide_eq_false_iff_not, decide_eq_false_iff_not]
      omega
    rw [e1]
    show (decide (25 ≤ q.1) && decide (q.1 ≤ 27)) = false
    rw [Bool.and_eq_false_iff, decide_eq_false_iff_not, decide_eq_false_iff_not]
    omega
theorem pd_b_cmp {o : Nat} (h : 25 ≤ o ∧ o ≤ 27) : pd_b o = 4 := by
  unfold pd_b
  rw [if_neg (by omega), if_neg (by omega), if_neg (by omega), if_neg (by omega), if_pos (by omega)]
theorem pd_o_c {o : Nat} (h : 25 ≤ o ∧ o ≤ 27) (x y : Int) : pd_o o x y = some 0 ∨ pd_o o x y = some 1 := by
  have key : ∀ r : Int, (r = 0 ∨ r = 1) → ((if -1000000000 ≤ r ∧ r ≤ 1000000000 then some r else none) = some (0 : Int) ∨ (if -1000000000 ≤ r ∧ r ≤ 1000000000 then some r else none) = some (1 : Int)) := by
    intro r hr
    rw [if_pos (by omega)]
    rcases hr with rfl | rfl
    · exact Or.inl rfl
    · exact Or.inr rfl
  unfold pd_o
  rw [if_neg (by omega)]
  refine key _ ?_
  rw [if_neg (by omega), if_neg (by omega), if_neg (by omega), if_neg (by omega), if_neg (by omega)]
  split
  · split
    · exact Or.inr rfl
    · exact Or.inl rfl
  · split
    · split
      · exact Or.inr rfl
      · exact Or.inl rfl
    · split
      · exact Or.inr rfl
      · exact Or.inl rfl
theorem pd_o_01 {o : Nat} (h : 25 ≤ o ∧ o ≤ 27) {V1 V2 : dn_V} : dn_01 (dn_bin (pd_o o) V1 V2) := by
  intro wd v e
  unfold dn_bin at e
  split at e
  · rename_i x y _ _
    rcases pd_o_c h x y with q | q
    · rw [q] at e; injection e with e; exact Or.inl e.symm
    · rw [q] at e; injection e with e; exact Or.inr e.symm
  · cases e
theorem xk_in.cons {tst : Bool} {P : pd_P} {q : Nat × Nat} (h : xk_in tst P) (hq : q.1 < 31) : xk_in tst (q :: P) := by
  have e : pd_in (q :: P) = pd_in P := pd_in_app (pe := [q]) (fun x hx => by rw [List.mem_singleton] at hx; subst hx; exact hq)
  unfold xk_in
  rw [e]
  exact h
theorem xk_in.app {tst : Bool} {P pe : pd_P} (h : xk_in tst P) (hq : pd_nb pe) : xk_in tst (pe ++ P) := by
  unfold xk_in
  rw [pd_in_app hq]
  exact h
theorem pd_br_1 {P : pd_P} {q : Nat × Nat} {d : Nat} (h : pd_br P = d) (hq : q.1 < 31) : pd_br (q :: P) = d := by
  show (bif decide (31 ≤ q.1) then pd_br P + 1 else pd_br P) = d
  rw [decide_eq_false (by omega)]
  exact h
theorem pd_cm_cmp {P : pd_P} {o : Nat} (h : 25 ≤ o ∧ o ≤ 27) : pd_cm ((o, 0) :: P) = true := by
  show (bif decide (20 ≤ o) && decide (o ≤ 24) then pd_cm P else decide (25 ≤ o) && decide (o ≤ 27)) = true
  rw [decide_eq_false (show ¬ o ≤ 24 by omega), Bool.and_false, decide_eq_true h.1, decide_eq_true h.2]
  rfl
/-- behind the first sum of a comparison -/
theorem xk_cm1 {F : Nat → Int32} {T : Nat} {ord tst : Bool} {d s lv s1 lv1 o : Nat} {k k1 : pd_K} (h1 : md_W F T s 14836 = false) (h2 : md_G F T s 40 = false) (q : xk_S F T ord tst 5 d s lv k true s1 lv1 k1) (ho : md_c F T s1 = o) (h0 : o ≠ 0) {P : pd_P} {c : pd_K} (hP : pd_br P = d) (ht : pd_tp 4 P) (hi : xk_in tst P) : ∃ c1 V, pd_R F T ord tst (0, s, lv, P, c) (1, xt_N F T s1, lv1, (o, 0) :: P, c1) ∧ pd_ag c.1 c c1 ∧ dn (pd_g ord c1) c.1 c1.1 (lv1 - lv) V ∧ dn (pc_g k1) k.1 k1.1 (lv1 - lv) V := by
  obtain ⟨⟨_, _, m⟩, nx⟩ := q
  obtain ⟨pe, c1, V, r1, r2, r3, r4, r5⟩ := m P c hP (ht.le (by omega))
  have n0 := (nx rfl).1 (Nat.le_refl _)
  have fa := pd_fl_ag r4.1 (fun q hq => (r4.2.1 q hq).2)
  refine ⟨pd_fl pe c1, V, ?_, r2.tr fa.1 (Nat.le_refl _), r4.2.2, r5⟩
  exact (pd_R01 r1 (by show (3 : Nat) ≠ 1; omega) h1 h2).st (ms_sc n0 (hi.app r3.nb) ((pd_cm_app r3).trans (pd_tp4_cm ht)) ho h0 (pd_se_fl (ht.le (by omega)) (pd_ar5 r3)))
theorem xk_cmp {F : Nat → Int32} {T : Nat} {ord tst : Bool} {d s lv s1 lv1 s2 lv2 o : Nat} {k k1 k2 : pd_K} (h1 : md_W F T s 14836 = false) (h2 : md_G F T s 40 = false) (q : xk_S F T ord tst 5 d s lv k true s1 lv1 k1) (ho : md_c F T s1 = o) (h0 : o ≠ 0) (q2 : xk_S F T ord tst 5 d (xt_N F T s1) lv1 k1 true s2 lv2 k2) : xk_T0 F T ord tst 4 d s lv k true s2 lv2 (pd_e k2 ((o : Int) - 14) 0) := by
  have p := md_c_lt ho h0
  obtain ⟨⟨⟨a1, a2⟩, b, m⟩, nx⟩ := q2
  obtain ⟨b1, b2, b3, b4, b5⟩ := b rfl
  obtain ⟨x1, x2, x3, x4, x5⟩ := q.1.2.1 rfl
  have pn := xt_N_p (F := F) q.1.1.2
  have pl := pn.2.2 p.1
  have y := q.1.1
  refine ⟨⟨by omega, a2⟩, fun _ => ⟨by omega, b2, by show k.1 ≤ k2.1 + 1; omega, by show k2.1 + 1 + s ≤ k.1 + s2; omega, (x5.tr b5 x3).tr (pd_e_ag b3) x3⟩, fun P c hP ht hi => ?_⟩
  obtain ⟨c1, V1, r1, r2, r3, r4⟩ := xk_cm1 h1 h2 q ho h0 (c := c) hP ht hi
  have bc := pd_b_cmp p.2
  obtain ⟨pe, c2, V2, u1, u2, u3, u4, u5⟩ := m ((o, 0) :: P) c1 (pd_br_1 hP (by show o < 31; omega)) (pd_tp_b (by omega))
  have n0 := (nx rfl).1 (Nat.le_refl _)
  have e : pe ++ (o, 0) :: P = (pe ++ [(o, 0)]) ++ P := by rw [List.append_assoc]; rfl
  refine ⟨pe ++ [(o, 0)], c2, dn_bin (pd_o o) V1 V2, ?_, r2.tr u2 r3.1, fun q hq => ?_, ?_, ?_, pd_o_01 p.2⟩
  · rw [← e]
    exact (r1.tr u1).st (ms_scm n0 ((hi.cons (q := (o, 0)) (by show o < 31; omega)).app u3.nb) ((pd_cm_app u3).trans (pd_cm_cmp p.2)))
  · rw [List.mem_append] at hq
    rcases hq with hq | hq
    · exact u3.nb q hq
    · rw [List.mem_singleton] at hq
      subst hq
      show o < 31
      omega
  · rw [show lv2 - lv = (lv1 - lv) + (lv2 - lv1) by omega]
    exact pd_pe.bin r3 (by omega) u2 u4 (by omega) (by omega) (by omega) (by omega)
  · rw [show lv2 - lv = (lv1 - lv) + (lv2 - lv1) by omega, show pd_o (o : Int) = pd_o ((o : Int) - 14 + 14) by rw [show (o : Int) - 14 + 14 = o by omega]]
    exact pc_bin (r4.cong (pc_g_ag b5)) (by omega) u5 (by omega)
theorem xk_cmpf1 {F : Nat → Int32} {T : Nat} {ord tst : Bool} {d s lv s1 lv1 lv2 : Nat} {k k1 k2 : pd_K} (h1 : md_W F T s 14836 = false) (h2 : md_G F T s 40 = false) (q : xk_S F T ord tst 5 d s lv k false s1 lv1 k1) : xk_T0 F T ord tst 4 d s lv k false s1 lv2 k2 := by
  obtain ⟨⟨⟨a1, a2⟩, _, m⟩, _⟩ := q
  refine xk_Tbad a1 a2 (fun P c hP ht hi => ?_)
  obtain ⟨x, y, z, r⟩ := m P c hP (ht.le (by omega))
  exact ⟨x, y, z, pd_R01 r (by show (5 : Nat) ≠ 1; omega) h1 h2⟩
theorem xk_cmpf2 {F : Nat → Int32} {T : Nat} {ord tst : Bool} {d s lv s1 lv1 lv2 : Nat} {k k1 k2 : pd_K} (h1 : md_W F T s 14836 = false) (h2 : md_G F T s 40 = false) (q : xk_S F T ord tst 5 d s lv k true s1 lv1 k1) (ho : md_c F T s1 = 0) : xk_T0 F T ord tst 4 d s lv k false s1 lv2 k2 := by
  obtain ⟨⟨⟨a1, a2⟩, _, m⟩, nx⟩ := q
  refine xk_Tbad a1 a2 (fun P c hP ht hi => ?_)
  obtain ⟨pe, c1, V, r1, r2, r3, r4, r5⟩ := m P c hP (ht.le (by omega))
  have n0 := (nx rfl).1 (Nat.le_refl _)
  exact ⟨_, _, _, (pd_R01 r1 (by show (3 : Nat) ≠ 1; omega) h1 h2).st (ms_scf n0 (hi.app r3.nb) ((pd_cm_app r3).trans (pd_tp4_cm ht)) ho)⟩
theorem xk_cmpf3 {F : Nat → Int32} {T : Nat} {ord tst : Bool} {d s lv s1 lv1 s2 lv2 lv3 o : Nat} {k k1 k2 k3 : pd_K} (h1 : md_W F T s 14836 = false) (h2 : md_G F T s 40 = false) (q : xk_S F T ord tst 5 d s lv k true s1 lv1 k1) (ho : md_c F T s1 = o) (h0 : o ≠ 0) (q2 : xk_S F T ord tst 5 d (xt_N F T s1) lv1 k1 false s2 lv2 k2) : xk_T0 F T ord tst 4 d s lv k false s2 lv3 k3 := by
  have p := md_c_lt ho h0
  obtain ⟨⟨⟨a1, a2⟩, _, m⟩, _⟩ := q2
  have pn := xt_N_p (F := F) q.1.1.2
  have y := q.1.1
  refine xk_Tbad (by omega) a2 (fun P c hP ht hi => ?_)
  obtain ⟨c1, V1, r1, r2, r3, r4⟩ := xk_cm1 h1 h2 q ho h0 (c := c) hP ht hi
  obtain ⟨x, y, z, r⟩ := m ((o, 0) :: P) c1 (pd_br_1 hP (by show o < 31; omega)) (pd_tp_b (by have := pd_b_cmp p.2; omega))
  exact ⟨x, y, z, r1.tr r⟩
/-- "(" TEST ")" -/
theorem ms_40 {F : Nat → Int32} {T : Nat} {ord tst : Bool} {s lv : Nat} {P : pd_P} {c : pd_K} (h : md_G F T s 40 = true) (hd : pd_br P < 8) : pd_ms F T ord tst (0, s, lv, P, c) = (0, xt_N F T s, lv, (31, 0) :: P, c) := by
  show (bif md_W F T s 14836 then _ else bif md_G F T s 40 then (bif decide (pd_br P < 8) then _ else _) else _) = _
  rw [md_GW h, h, decide_eq_true hd]
  rfl
theorem ms_40f {F : Nat → Int32} {T : Nat} {ord tst : Bool} {s lv : Nat} {P : pd_P} {c : pd_K} (h : md_G F T s 40 = true) (hd : 8 ≤ pd_br P) : pd_ms F T ord tst (0, s, lv, P, c) = (5, s, lv, P, c) := by
  show (bif md_W F T s 14836 then _ else bif md_G F T s 40 then (bif decide (pd_br P < 8) then _ else _) else _) = _
  rw [md_GW h, h, decide_eq_false (by omega)]
  rfl
theorem xk_rnd {F : Nat → Int32} {T : Nat} {ord tst : Bool} {d s lv s1 lv1 : Nat} {k k1 : pd_K} (h40 : md_G F T s 40 = true) (hd : d < 8) (q : xk_T F T ord tst 1 (d + 1) (xt_N F T s) lv k true s1 lv1 k1) (h41 : md_G F T s1 41 = true) : xk_T0 F T ord tst 4 d s lv k true (xt_N F T s1) lv1 k1 := by
  obtain ⟨⟨⟨a1, a2⟩, b, m⟩, nx⟩ := q
  obtain ⟨b1, b2, b3, b4, b5⟩ := b rfl
  have nx := nx rfl
  have p1 := xt_N_p (F := F) (Nat.le_of_lt (md_G_lt h40))
  have p2 := xt_N_p (F := F) a2
  have p3 := p1.2.2 (md_G_lt h40)
  refine ⟨⟨by omega, p2.2.1⟩, fun _ => ⟨b1, b2, b3, by omega, b5⟩, fun P c hP ht hi => ?_⟩
  obtain ⟨pe, c1, V, r1, r2, r3, r4, r5, r6⟩ := m ((31, 0) :: P) c (by show pd_br P + 1 = d + 1; omega) (pd_tp_b (by decide)) (Or.inl rfl)
  have fa := pd_fl_ag r4.1 (fun q hq => (r4.2.1 q hq).2)
  refine ⟨[], pd_fl pe c1, V, ((pd_R.one (ms_40 h40 (by omega))).tr r1).st (ms_t41 (nx.1 (by omega)) (nx.2 (by omega)) ((pd_in_app r3).trans rfl) h41 (pd_se_fl (pd_tp_b (by decide)) (fun q hq => (r4.2.1 q hq).1))), r2.tr fa.1 (Nat.le_refl _), fun q hq => (by cases hq), ⟨Nat.le_trans r4.1 fa.2, fun q hq => (by cases hq), r4.2.2⟩, r5, r6⟩
theorem xk_rndf1 {F : Nat → Int32} {T : Nat} {ord tst : Bool} {d s lv s1 lv1 lv2 : Nat} {k k1 k2 : pd_K} (h40 : md_G F T s 40 = true) (hd : d < 8) (q : xk_T F T ord tst 1 (d + 1) (xt_N F T s) lv k false s1 lv1 k1) : xk_T0 F T ord tst 4 d s lv k false s1 lv2 k2 := by
  obtain ⟨⟨⟨a1, a2⟩, _, m⟩, _⟩ := q
  have p1 := xt_N_p (F := F) (Nat.le_of_lt (md_G_lt h40))
  refine xk_Tbad (by omega) a2 (fun P c hP ht hi => ?_)
  obtain ⟨x, y, z, r⟩ := m ((31, 0) :: P) c (by show pd_br P + 1 = d + 1; omega) (pd_tp_b (by decide)) (Or.inl rfl)
  exact ⟨x, y, z, (pd_R.one (ms_40 h40 (by omega))).tr r⟩
theorem xk_rndf2 {F : Nat → Int32} {T : Nat} {ord tst : Bool} {d s lv s1 lv1 lv2 : Nat} {k k1 k2 : pd_K} (h40 : md_G F T s 40 = true) (hd : d < 8) (q : xk_T F T ord tst 1 (d + 1) (xt_N F T s) lv k true s1 lv1 k1) (h41 : md_G F T s1 41 = false) : xk_T0 F T ord tst 4 d s lv k false s1 lv2 k2 := by
  obtain ⟨⟨⟨a1, a2⟩, _, m⟩, nx⟩ := q
  have nx := nx rfl
  have p1 := xt_N_p (F := F) (Nat.le_of_lt (md_G_lt h40))
  refine xk_Tbad (by omega) a2 (fun P c hP ht hi => ?_)
  obtain ⟨pe, c1, V, r1, r2, r3, r4, r5, r6⟩ := m ((31, 0) :: P) c (by show pd_br P + 1 = d + 1; omega) (pd_tp_b (by decide)) (Or.inl rfl)
  exact ⟨_, _, _, ((pd_R.one (ms_40 h40 (by omega))).tr r1).st (ms_t41f (nx.1 (by omega)) (nx.2 (by omega)) ((pd_in_app r3).trans rfl) h41)⟩
theorem xk_rndf3 {F : Nat → Int32} {T : Nat} {ord tst : Bool} {d s lv lv2 : Nat} {k k2 : pd_K} (h40 : md_G F T s 40 = true) (hd : 8 ≤ d) : xk_T0 F T ord tst 4 d s lv k false s lv2 k2 := by
  have p := md_G_lt h40
  exact xk_Tbad (Nat.le_refl _) (by omega) (fun P c hP _ _ => ⟨_, _, _, pd_R.one (ms_40f h40 (by omega))⟩)
/-- n times "not", then a plain -/
def dn_nn : Nat → dn_V → dn_V
  | 0, V => V
  | n + 1, V => dn_not (dn_nn n V)
theorem dn_nn_2 {V : dn_V} : ∀ n : Nat, dn_nn n V = if n % 2 = 0 then V else dn_not V
  | 0 => rfl
  | n + 1 => by
    show dn_not (dn_nn n V) = _
    rw [dn_nn_2 n]
    by_cases h : n % 2 = 0
    · rw [if_pos h, if_neg (by omega)]
    · rw [if_neg h, if_pos (by omega), dn_not2]
theorem dn_nn_01 {V : dn_V} (h : dn_01 V) : ∀ n : Nat, dn_01 (dn_nn n V)
  | 0 => h
  | n + 1 => (dn_nn_01 h n).not
theorem pd_pe.nn {ord : Bool} {l a m : Nat} {pe : pd_P} {c : pd_K} {V : dn_V} (d : pd_pe ord l a m pe c V) (hl : l ≤ 3) : ∀ n : Nat, pd_pe ord l a m (pe ++ List.replicate n (28, 0)) c (dn_nn n V)
  | 0 => by rw [show pe ++ List.replicate 0 ((28 : Nat), (0 : Nat)) = pe from List.append_nil pe]; exact d
  | n + 1 => by
    rw [List.replicate_succ', ← List.append_assoc]
    exact (pd_pe.nn d hl n).not hl
def xk_N (F : Nat → Int32) (T : Nat) (ord tst : Bool) (s0 lv n s : Nat) : Prop := s0 + n ≤ s ∧ s ≤ T ∧ ∀ P c, pd_R F T ord tst (0, s0, lv, P, c) (0, s, lv, List.replicate n (28, 0) ++ P, c)
theorem xk_N.zero {F : Nat → Int32} {T : Nat} {ord tst : Bool} {s lv : Nat} (h : s ≤ T) : xk_N F T ord tst s lv 0 s := ⟨Nat.le_refl _, h, fun _ _ => pd_R.refl⟩
theorem xk_N.succ {F : Nat → Int32} {T : Nat} {ord tst : Bool} {s0 lv n s : Nat} (h : xk_N F T ord tst s0 lv n s) (hn : md_W F T s 14836 = true) : xk_N F T ord tst s0 lv (n + 1) (xt_N F T s) := by
  obtain ⟨h1, h2, h3⟩ := h
  have p := xt_N_p (F := F) h2
  have q := p.2.2 (md_W_lt hn)
  refine ⟨by omega, p.2.1, fun P c => (h3 P c).st ?_⟩
  show (bif md_W F T s 14836 then (0, xt_N F T s, lv, (28, 0) :: (List.replicate n (28, 0) ++ P), c) else _) = _
  rw [hn]
  rfl
theorem pd_nb_rep {n : Nat} : pd_nb (List.replicate n (28, 0)) := fun q hq => by
  rw [List.eq_of_mem_replicate hq]
  decide
theorem pd_tp_rep {P : pd_P} (h : pd_tp 3 P) : ∀ n : Nat, pd_tp 4 (List.replicate n (28, 0) ++ P)
  | 0 => h.le (by omega)
  | n + 1 => by
    show pd_tp 4 ((28, 0) :: (List.replicate n (28, 0) ++ P))
    exact pd_tp_b (by decide)
theorem xk_N.fin {F : Nat → Int32} {T : Nat} {ord tst : Bool} {d s0 lv n s s1 lv1 : Nat} {k k1 : pd_K} (h : xk_N F T ord tst s0 lv n s) (q : xk_T0 F T ord tst 4 d s lv k true s1 lv1 k1) : xk_T F T ord tst 3 d s0 lv k true s1 lv1 (if n % 2 = 0 then k1 else pd_e k1 3 0) := by
  obtain ⟨h1, h2, h3⟩ := h
  obtain ⟨⟨a1, a2⟩, b, m⟩ := q
  obtain ⟨b1, b2, b3, b4, b5⟩ := b rfl
  have hk : (if n % 2 = 0 then k1 else pd_e k1 3 0).1 = if n % 2 = 0 then k1.1 else k1.1 + 1 := by
    split
    · rfl
    · rfl
  refine ⟨⟨⟨by omega, a2⟩, fun _ => ⟨b1, b2, ?_, ?_, ?_⟩, fun P c hP ht hi => ?_⟩, fun _ => ⟨fun h => absurd h (by omega), fun h => absurd h (by omega)⟩⟩
  · rw [hk]; split <;> omega
  · rw [hk]; split <;> omega
  · split
    · exact b5
    · exact b5.tr (pd_e_ag b3) (Nat.le_refl _)
  · obtain ⟨pe, c1, V, r1, r2, r3, r4, r5, r6⟩ := m (List.replicate n (28, 0) ++ P) c ((pd_br_app pd_nb_rep).trans hP) (pd_tp_rep ht n) (hi.app pd_nb_rep)
    refine ⟨pe ++ List.replicate n (28, 0), c1, dn_nn n V, ?_, r2, fun q hq => ?_, pd_pe.nn (r4.le (by omega)) (Nat.le_refl _) n, ?_, dn_nn_01 r6 n⟩
    · rw [List.append_assoc]
      exact (h3 P c).tr r1
    · rw [List.mem_append] at hq
      rcases hq with hq | hq
      · exact r3 q hq
      · exact pd_nb_rep q hq
    · rw [dn_nn_2]
      by_cases p : n % 2 = 0
      · rw [if_pos p, if_pos p]
        exact r5
      · rw [if_neg p, if_neg p]
        exact pc_not r5
theorem xk_N.fail {F : Nat → Int32} {T : Nat} {ord tst : Bool} {d s0 lv n s s1 lv1 lv2 : Nat} {k k1 k2 : pd_K} (h : xk_N F T ord tst s0 lv n s) (q : xk_T0 F T ord tst 4 d s lv k false s1 lv1 k1) : xk_T F T ord tst 3 d s0 lv k false s1 lv2 k2 := by
  obtain ⟨h1, h2, h3⟩ := h
  obtain ⟨⟨a1, a2⟩, b, m⟩ := q
  refine ⟨xk_Tbad (by omega) a2 (fun P c hP ht hi => ?_), fun h => (by cases h)⟩
  obtain ⟨x, y, z, r⟩ := m (List.replicate n (28, 0) ++ P) c ((pd_br_app pd_nb_rep).trans hP) (pd_tp_rep ht n) (hi.app pd_nb_rep)
  exact ⟨x, y, z, (h3 P c).tr r⟩
/-- at the head of a chain of "and" (class 4, l 2), of "or" (5, 1): what waits stands at b -/
def xk_mo (o : Int) : Nat := if o = 4 then 29 else 30
def xk_B (F : Nat → Int32) (T : Nat) (ord tst : Bool) (l d s0 lv0 : Nat) (k0 : pd_K) (o : Int) (b s lv : Nat) (k : pd_K) : Prop :=
  (o = -1 ∧ s = s0 ∧ lv = lv0 ∧ k = k0 ∧ s0 ≤ T) ∨ ((o = 4 ∨ o = 5) ∧ pd_b (xk_mo o) = l ∧ s0 ≤ s ∧ s ≤ T ∧ lv0 < lv ∧ lv ≤ 50 ∧ k0.1 ≤ b ∧ k.1 = b + 1 ∧ k.2.1 b = o ∧ k.1 + s0 ≤ k0.1 + s ∧ pd_ag k0.1 k0 k ∧ ∀ P c, pd_br P = d → pd_tp l P → xk_in tst P → ∃ c1 V, pd_R F T ord tst (0, s0, lv0, P, c) (0, s, lv, (xk_mo o, c1.1) :: P, pd_e c1 (xk_mo o) 0) ∧ pd_ag c.1 c c1 ∧ dn (pd_g ord c1) c.1 c1.1 (lv - lv0) V ∧ dn (pc_g k) k0.1 b (lv - lv0) V ∧ dn_01 V)
def xk_kb (o : Int) (b : Nat) (k : pd_K) : pd_K := if o = -1 then k else (k.1, k.2.1, pd_u k.2.2 b k.1)
theorem xk_mo_lt {o : Int} : xk_mo o < 31 ∧ pd_sk (xk_mo o) := by
  unfold xk_mo pd_sk
  split <;> omega
theorem xk_B.mid {F : Nat → Int32} {T : Nat} {ord tst : Bool} {l d s0 lv0 s lv s1 lv1 b : Nat} {k0 k k1 : pd_K} {o : Int} (h : xk_B F T ord tst l d s0 lv0 k0 o b s lv k) (q : xk_T F T ord tst (l + 1) d s lv k true s1 lv1 k1) : xk_T0 F T ord tst l d s0 lv0 k0 true s1 lv1 (xk_kb o b k1) := by
  obtain ⟨⟨⟨a1, a2⟩, bb, m⟩, _⟩ := q
  obtain ⟨b1, b2, b3, b4, b5⟩ := bb rfl
  rcases h with ⟨h1, h2, h3, h4, _⟩ | ⟨h1, h2, h3, h4, h5, h5', h6, h7, h8, h9, h10, hm⟩
  · subst h2 h3 h4
    unfold xk_kb
    rw [if_pos h1]
    refine ⟨⟨a1, a2⟩, fun _ => ⟨b1, b2, b3, b4, b5⟩, fun P c hP ht hi => ?_⟩
    obtain ⟨pe, c1, V, r1, r2, r3, r4, r5, r6⟩ := m P c hP (ht.le (by omega)) hi
    exact ⟨pe, c1, V, r1, r2, r3, r4.le (by omega), r5, r6⟩
  · unfold xk_kb
    rw [if_neg (by omega)]
    have agk : pd_ag k0.1 k1 (k1.1, k1.2.1, pd_u k1.2.2 b k1.1) := fun j hj => ⟨rfl, pd_u_ne (by omega)⟩
    refine ⟨⟨by omega, a2⟩, fun _ => ⟨by omega, b2, by show k0.1 ≤ k1.1; omega, by show k1.1 + s0 ≤ k0.1 + s1; omega, ((h10.tr b5 (by omega)).tr agk (Nat.le_refl _))⟩, fun P c hP ht hi => ?_⟩
    obtain ⟨c1, V1, r1, r2, r3, r4, r5⟩ := hm P c hP ht hi
    have mo := xk_mo_lt (o := o)
    obtain ⟨pe, c2, V2, u1, u2, u3, u4, u5, u6⟩ := m ((xk_mo o, c1.1) :: P) (pd_e c1 (xk_mo o) 0) (pd_br_1 hP mo.1) (pd_tp_b (by omega)) (hi.cons mo.1)
    have e : pe ++ (xk_mo o, c1.1) :: P = (pe ++ [(xk_mo o, c1.1)]) ++ P := by rw [List.append_assoc]; rfl
    have eq : (if xk_mo o = 29 then (0 : Int) else 1) = (if o = 4 then 0 else 1) := by
      unfold xk_mo
      rcases h1 with rfl | rfl <;> rfl
    refine ⟨pe ++ [(xk_mo o, c1.1)], c2, dn_skip (if xk_mo o = 29 then 0 else 1) V1 V2, ?_, ?_, fun q hq => ?_, ?_, ?_, r5.skip u6⟩
    · rw [← e]
      exact r1.tr u1
    · exact (r2.tr (pd_e_ag (op := (xk_mo o : Int)) (ar := 0) r3.1) (Nat.le_refl _)).tr u2 (by show c.1 ≤ c1.1 + 1; have := r3.1; omega)
    · rw [List.mem_append] at hq
      rcases hq with hq | hq
      · exact u3 q hq
      · rw [List.mem_singleton] at hq
        subst hq
        exact mo.1
    · rw [show lv1 - lv0 = (lv - lv0) + (lv1 - lv) by omega]
      exact pd_pe.skip r3 u2 u4 (by omega) (by omega) mo.2
    · rw [show lv1 - lv0 = (lv - lv0) + (lv1 - lv) by omega, eq]
      exact pc_skip (r4.cong (pc_g_ag (b5.le (by omega)))) (by rw [← h7]; exact u5) h1 ((b5 b (by omega)).1.trans h8)
theorem xk_B.last {F : Nat → Int32} {T : Nat} {ord tst : Bool} {l d s0 lv0 s lv s1 lv1 b : Nat} {k0 k k1 : pd_K} {o : Int} (h : xk_B F T ord tst l d s0 lv0 k0 o b s lv k) (q : xk_T F T ord tst (l + 1) d s lv k true s1 lv1 k1) (hx : xk_nt F T l s1) : xk_T F T ord tst l d s0 lv0 k0 true s1 lv1 (xk_kb o b k1) := ⟨h.mid q, fun _ => hx⟩
theorem xk_B.next {F : Nat → Int32} {T : Nat} {ord tst : Bool} {l d s0 lv0 s lv s1 lv1 b : Nat} {k0 k k1 : pd_K} {o o1 : Int} (h : xk_B F T ord tst l d s0 lv0 k0 o b s lv k) (q : xk_T F T ord tst (l + 1) d s lv k true s1 lv1 k1) (ho : (o1 = 4 ∧ l = 2 ∧ md_W F T s1 1476 = true) ∨ (o1 = 5 ∧ l = 1 ∧ md_W F T s1 498 = true)) : xk_B F T ord tst l d s0 lv0 k0 o1 (xk_kb o b k1).1 (xt_N F T s1) lv1 (pd_e (xk_kb o b k1) o1 0) := by
  obtain ⟨⟨a1, a2⟩, bb, m⟩ := h.mid q
  obtain ⟨b1, b2, b3, b4, b5⟩ := bb rfl
  have p := xt_N_p (F := F) a2
  have hlt : s1 < T := by rcases ho with ⟨_, _, w⟩ | ⟨_, _, w⟩ <;> exact md_W_lt w
  have p2 := p.2.2 hlt
  have hb : pd_b (xk_mo o1) = l := by rcases ho with ⟨rfl, rfl, _⟩ | ⟨rfl, rfl, _⟩ <;> rfl
  have hw : (xk_mo o1 = 29 ∧ md_W F T s1 1476 = true) ∨ (xk_mo o1 = 30 ∧ md_W F T s1 498 = true) := by
    rcases ho with ⟨rfl, _, w⟩ | ⟨rfl, _, w⟩
    · exact Or.inl ⟨rfl, w⟩
    · exact Or.inr ⟨rfl, w⟩
  refine Or.inr ⟨by omega, hb, by omega, p.2.1, b1, b2, b3, rfl, pd_u_eq, by show (xk_kb o b k1).1 + 1 + s0 ≤ k0.1 + xt_N F T s1; omega, b5.tr (pd_e_ag b3) (Nat.le_refl _), fun P c hP ht hi => ?_⟩
  obtain ⟨pe, c1, V, r1, r2, r3, r4, r5, r6⟩ := m P c hP ht hi
  have fa := pd_fl_ag r4.1 (fun q hq => (r4.2.1 q hq).2)
  refine ⟨pd_fl pe c1, V, r1.st (ms_tao hw (pd_se_fl (by rw [hb]; exact ht) (by rw [hb]; exact fun q hq => (r4.2.1 q hq).1))), r2.tr fa.1 (Nat.le_refl _), r4.2.2, r5.cong (pc_g_ag (pd_e_ag (Nat.le_refl _))), r6⟩
theorem xk_B.fail {F : Nat → Int32} {T : Nat} {ord tst : Bool} {l d s0 lv0 s lv s1 lv1 lv2 b : Nat} {k0 k k1 k2 : pd_K} {o : Int} (h : xk_B F T ord tst l d s0 lv0 k0 o b s lv k) (q : xk_T F T ord tst (l + 1) d s lv k false s1 lv1 k1) : xk_T F T ord tst l d s0 lv0 k0 false s1 lv2 k2 := by
  obtain ⟨⟨⟨a1, a2⟩, _, m⟩, _⟩ := q
  refine ⟨?_, fun h => (by cases h)⟩
  rcases h with ⟨h1, h2, h3, h4, _⟩ | ⟨h1, h2, h3, h4, h5, h5', h6, h7, h8, h9, h10, hm⟩
  · subst h2 h3 h4
    exact xk_Tbad a1 a2 (fun P c hP ht hi => m P c hP (ht.le (by omega)) hi)
  · refine xk_Tbad (by omega) a2 (fun P c hP ht hi => ?_)
    obtain ⟨c1, V1, r1, r2, r3, r4, r5⟩ := hm P c hP ht hi
    have mo := xk_mo_lt (o := o)
    obtain ⟨x, y, z, r⟩ := m ((xk_mo o, c1.1) :: P) (pd_e c1 (xk_mo o) 0) (pd_br_1 hP mo.1) (pd_tp_b (by omega)) (hi.cons mo.1)
    exact ⟨x, y, z, r1.tr r⟩
end PDT
