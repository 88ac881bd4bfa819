/-! THE CLASS'S READER beside the machine: what a chain, a part, a plain of the class reads is a run of the machine, and both codes stand for the same value. -/
section PDK
theorem ms_so {F : Nat → Int32} {T : Nat} {ord tst : Bool} {s lv o : Nat} {P P' : pd_P} {c c' : pd_K} (h : md_s F T s = o) (h0 : o ≠ 0) (e : pd_se (pd_b o) P c = (P', c')) : pd_ms F T ord tst (3, s, lv, P, c) = (1, xt_N F T s, lv, (o, 0) :: P', c') := by
  show (bif !(md_s F T s == 0) then (1, xt_N F T s, lv, (md_s F T s, 0) :: (pd_se (pd_b (md_s F T s)) P c).1, (pd_se (pd_b (md_s F T s)) P c).2) else _) = _
  rw [h, e, show (o == 0) = false from beq_false_of_ne h0]
  rfl
theorem ms_s0 {F : Nat → Int32} {T : Nat} {ord tst : Bool} {s lv : Nat} {P : pd_P} {c : pd_K} (h : md_s F T s = 0) : pd_ms F T ord tst (3, s, lv, P, c) = (bif pd_in P == 32 then (bif md_G F T s 93 then (3, xt_N F T s, lv, (pd_se 5 P c).1.tail, (pd_se 5 P c).2) else (5, s, lv, P, c))
    else bif (pd_in P == 0) && !tst then (4, s, lv, P, c)
    else bif pd_cm P then (2, s, lv, P, c)
    else bif !(md_c F T s == 0) then (1, xt_N F T s, lv, (md_c F T s, 0) :: (pd_se 5 P c).1, (pd_se 5 P c).2) else (5, s, lv, P, c)) := by
  show (bif !(md_s F T s == 0) then _ else _) = _
  rw [h]
  rfl
theorem ms_s93 {F : Nat → Int32} {T : Nat} {ord tst : Bool} {s lv : Nat} {P P' : pd_P} {c c' : pd_K} (h : md_s F T s = 0) (hi : pd_in P = 32) (hg : md_G F T s 93 = true) (e : pd_se 5 P c = (P', c')) : pd_ms F T ord tst (3, s, lv, P, c) = (3, xt_N F T s, lv, P'.tail, c') := by
  rw [ms_s0 h, hi, hg, e]
  rfl
theorem ms_s93f {F : Nat → Int32} {T : Nat} {ord tst : Bool} {s lv : Nat} {P : pd_P} {c : pd_K} (h : md_s F T s = 0) (hi : pd_in P = 32) (hg : md_G F T s 93 = false) : pd_ms F T ord tst (3, s, lv, P, c) = (5, s, lv, P, c) := by
  rw [ms_s0 h, hi, hg]
  rfl
/-- within a test -/
def xk_in (tst : Bool) (P : pd_P) : Prop := pd_in P = 31 ∨ (pd_in P = 0 ∧ tst = true)
theorem xk_in.b {tst : Bool} {P : pd_P} (h : xk_in tst P) : (pd_in P == 32) = false ∧ ((pd_in P == 0) && !tst) = false := by
  rcases h with h | ⟨h, h2⟩
  · rw [h]; exact ⟨rfl, rfl⟩
  · rw [h, h2]; exact ⟨rfl, rfl⟩
theorem ms_scm {F : Nat → Int32} {T : Nat} {ord tst : Bool} {s lv : Nat} {P : pd_P} {c : pd_K} (h : md_s F T s = 0) (hi : xk_in tst P) (hc : pd_cm P = true) : pd_ms F T ord tst (3, s, lv, P, c) = (2, s, lv, P, c) := by
  rw [ms_s0 h, hi.b.1, hi.b.2, hc]
  rfl
theorem ms_sc {F : Nat → Int32} {T : Nat} {ord tst : Bool} {s lv o : Nat} {P P' : pd_P} {c c' : pd_K} (h : md_s F T s = 0) (hi : xk_in tst P) (hc : pd_cm P = false) (ho : md_c F T s = o) (h0 : o ≠ 0) (e : pd_se 5 P c = (P', c')) : pd_ms F T ord tst (3, s, lv, P, c) = (1, xt_N F T s, lv, (o, 0) :: P', c') := by
  rw [ms_s0 h, hi.b.1, hi.b.2, hc, ho, e, show (o == 0) = false from beq_false_of_ne h0]
  rfl
theorem ms_scf {F : Nat → Int32} {T : Nat} {ord tst : Bool} {s lv : Nat} {P : pd_P} {c : pd_K} (h : md_s F T s = 0) (hi : xk_in tst P) (hc : pd_cm P = false) (ho : md_c F T s = 0) : pd_ms F T ord tst (3, s, lv, P, c) = (5, s, lv, P, c) := by
  rw [ms_s0 h, hi.b.1, hi.b.2, hc, ho]
  rfl
theorem ms_t0 {F : Nat → Int32} {T : Nat} {ord tst : Bool} {s lv : Nat} {P : pd_P} {c : pd_K} (h1 : md_W F T s 1476 = false) (h2 : md_W F T s 498 = false) : pd_ms F T ord tst (2, s, lv, P, c) = (bif pd_in P == 0 then (4, s, lv, P, c) else bif md_G F T s 41 then (2, xt_N F T s, lv, (pd_se 1 P c).1.tail, (pd_se 1 P c).2) else (5, s, lv, P, c)) := by
  show (bif md_W F T s 1476 || md_W F T s 498 then _ else _) = _
  rw [h1, h2]
  rfl
theorem ms_t41 {F : Nat → Int32} {T : Nat} {ord tst : Bool} {s lv : Nat} {P P' : pd_P} {c c' : pd_K} (h1 : md_W F T s 1476 = false) (h2 : md_W F T s 498 = false) (hi : pd_in P = 31) (hg : md_G F T s 41 = true) (e : pd_se 1 P c = (P', c')) : pd_ms F T ord tst (2, s, lv, P, c) = (2, xt_N F T s, lv, P'.tail, c') := by
  rw [ms_t0 h1 h2, hi, hg, e]
  rfl
theorem ms_t41f {F : Nat → Int32} {T : Nat} {ord tst : Bool} {s lv : Nat} {P : pd_P} {c : pd_K} (h1 : md_W F T s 1476 = false) (h2 : md_W F T s 498 = false) (hi : pd_in P = 31) (hg : md_G F T s 41 = false) : pd_ms F T ord tst (2, s, lv, P, c) = (5, s, lv, P, c) := by
  rw [ms_t0 h1 h2, hi, hg]
  rfl
/-- "and", "or" -/
theorem ms_tao {F : Nat → Int32} {T : Nat} {ord tst : Bool} {s lv o : Nat} {P P' : pd_P} {c c' : pd_K} (h : (o = 29 ∧ md_W F T s 1476 = true) ∨ (o = 30 ∧ md_W F T s 498 = true)) (e : pd_se (pd_b o) P c = (P', c')) : pd_ms F T ord tst (2, s, lv, P, c) = (0, xt_N F T s, lv, (o, c'.1) :: P', pd_e c' o 0) := by
  show (bif md_W F T s 1476 || md_W F T s 498 then (0, xt_N F T s, lv, (bif md_W F T s 1476 then 29 else 30, (pd_se (bif md_W F T s 1476 then 2 else 1) P c).2.1) :: (pd_se (bif md_W F T s 1476 then 2 else 1) P c).1, pd_e (pd_se (bif md_W F T s 1476 then 2 else 1) P c).2 (bif md_W F T s 1476 then 29 else 30) 0) else _) = _
  rcases h with ⟨rfl, h⟩ | ⟨rfl, h⟩
  · rw [h]
    dsimp only [Bool.true_or, cond]
    have e : pd_se 2 P c = (P', c') := e
    rw [e]
    rfl
  · rw [h, show md_W F T s 1476 = false from md_W1 h (by decide)]
    dsimp only [Bool.false_or, cond]
    have e : pd_se 1 P c = (P', c') := e
    rw [e]
    rfl
/-- what stands behind a sum's chain -/
def xk_nx (F : Nat → Int32) (T l s : Nat) : Prop := (l ≤ 5 → md_s F T s = 0) ∧ (l ≤ 6 → md_s F T s = 0 ∨ md_s F T s = 20 ∨ md_s F T s = 21)
/-- the class has read a sum's piece from s to s1 (l: 5 a sum, 6 a term, 7 a part), or found the fault there -/
def xk_S0 (F : Nat → Int32) (T : Nat) (ord tst : Bool) (l d s lv : Nat) (k : pd_K) (ok : Bool) (s1 lv1 : Nat) (k1 : pd_K) : Prop :=
  (s ≤ s1 ∧ s1 ≤ T) ∧ (ok = true → lv < lv1 ∧ lv1 ≤ 50 ∧ k.1 ≤ k1.1 ∧ k1.1 + s ≤ k.1 + s1 ∧ pd_ag k.1 k k1) ∧ ∀ P c, pd_br P = d → pd_tp l P →
  (bif ok then ∃ pe c1 V, pd_R F T ord tst (1, s, lv, P, c) (3, s1, lv1, pe ++ P, c1) ∧ pd_ag c.1 c c1 ∧ pd_ar pe ∧ pd_pe ord l c.1 (lv1 - lv) pe c1 V ∧ dn (pc_g k1) k.1 k1.1 (lv1 - lv) V
   else ∃ lv2 P1 c1, pd_R F T ord tst (1, s, lv, P, c) (5, s1, lv2, P1, c1))
def xk_S (F : Nat → Int32) (T : Nat) (ord tst : Bool) (l d s lv : Nat) (k : pd_K) (ok : Bool) (s1 lv1 : Nat) (k1 : pd_K) : Prop := xk_S0 F T ord tst l d s lv k ok s1 lv1 k1 ∧ (ok = true → xk_nx F T l s1)
theorem xk_nx7 {F : Nat → Int32} {T s : Nat} : xk_nx F T 7 s := ⟨fun h => absurd h (by omega), fun h => absurd h (by omega)⟩
theorem xk_leaf {F : Nat → Int32} {T : Nat} {ord tst : Bool} {d s lv s1 : Nat} {k : pd_K} {op ar op' ar' : Int} (hs : s < s1) (hT : s1 ≤ T) (hl : lv < 50) (hp : ∀ P c, pd_part F T ord s lv P c = (3, s1, lv + 1, P, pd_e c op ar)) (h20 : op < 20) (hc : op' = 1 ∨ op' = 2) (hx : ∀ wd : Nat → Int, (if op' = 1 then ar' else wd ar'.toNat) = (if op = 0 then ar else wd (pd_um ord op ar))) : xk_S F T ord tst 7 d s lv k true s1 (lv + 1) (pd_e k op' ar') := by
  refine ⟨⟨⟨by omega, hT⟩, fun _ => ⟨by omega, by omega, Nat.le_succ _, by show k.1 + 1 + s ≤ k.1 + s1; omega, pd_e_ag (Nat.le_refl _)⟩, fun P c _ _ => ?_⟩, fun _ => xk_nx7⟩
  have e : (fun wd : Nat → Int => some (if op' = 1 then ar' else wd ar'.toNat)) = (fun wd => some (if op = 0 then ar else wd (pd_um ord op ar))) := funext fun wd => congrArg some (hx wd)
  refine ⟨[], pd_e c op ar, fun wd => some (if op = 0 then ar else wd (pd_um ord op ar)), pd_R.one (hp P c), pd_e_ag (Nat.le_refl _), fun q hq => (by cases hq), ?_, ?_⟩
  · rw [show lv + 1 - lv = 1 by omega]
    exact pd_pe.leaf h20
  · rw [show lv + 1 - lv = 1 by omega, ← e]
    exact pc_leaf hc
theorem xk_bad {F : Nat → Int32} {T : Nat} {ord tst : Bool} {l d s lv s1 lv1 : Nat} {k k1 : pd_K} (hs : s ≤ s1) (hT : s1 ≤ T) (hp : ∀ P c, pd_br P = d → ∃ lv2 P1 c1, pd_R F T ord tst (1, s, lv, P, c) (5, s1, lv2, P1, c1)) : xk_S F T ord tst l d s lv k false s1 lv1 k1 :=
  ⟨⟨⟨hs, hT⟩, fun h => (by cases h), fun P c hd _ => hp P c hd⟩, fun h => (by cases h)⟩
theorem pd_part_91 {F : Nat → Int32} {T : Nat} {ord : Bool} {s lv : Nat} {P : pd_P} {c : pd_K} (h : md_G F T s 91 = true) (hd : pd_br P < 8) : pd_part F T ord s lv P c = (1, xt_N F T s, lv, (32, 0) :: P, c) := by
  unfold pd_part
  rw [h, decide_eq_true hd]
  rfl
theorem pd_part_91f {F : Nat → Int32} {T : Nat} {ord : Bool} {s lv : Nat} {P : pd_P} {c : pd_K} (h : md_G F T s 91 = true) (hd : 8 ≤ pd_br P) : pd_part F T ord s lv P c = (5, s, lv, P, c) := by
  unfold pd_part
  rw [h, decide_eq_false (by omega)]
  rfl
theorem ms_91 {F : Nat → Int32} {T : Nat} {ord tst : Bool} {s lv : Nat} {P : pd_P} {c : pd_K} (h : md_G F T s 91 = true) (hd : pd_br P < 8) : pd_ms F T ord tst (1, s, lv, P, c) = (1, xt_N F T s, lv, (32, 0) :: P, c) := pd_part_91 h hd
theorem ms_91f {F : Nat → Int32} {T : Nat} {ord tst : Bool} {s lv : Nat} {P : pd_P} {c : pd_K} (h : md_G F T s 91 = true) (hd : 8 ≤ pd_br P) : pd_ms F T ord tst (1, s, lv, P, c) = (5, s, lv, P, c) := pd_part_91f h hd
theorem md_G_lt {F : Nat → Int32} {T s : Nat} {a : Int} (h : md_G F T s a = true) : s < T := by
  unfold md_G at h
  rw [Bool.and_eq_true, decide_eq_true_eq] at h
  have h := h.1
  by_cases q : T ≤ s
  · unfold md_k at h
    rw [decide_eq_true q] at h
    cases h
  · omega
theorem md_W_lt {F : Nat → Int32} {T s : Nat} {a : Int} (h : md_W F T s a = true) : s < T := by
  unfold md_W at h
  rw [Bool.and_eq_true, decide_eq_true_eq] at h
  have h := h.1
  by_cases q : T ≤ s
  · unfold md_k at h
    rw [decide_eq_true q] at h
    cases h
  · omega
theorem xt_N_p {F : Nat → Int32} {T s : Nat} (h : s ≤ T) : s ≤ xt_N F T s ∧ xt_N F T s ≤ T ∧ (s < T → s < xt_N F T s) := by
  have p := xt_E_p (F := F) h
  have q := xt_S_p (F := F) p.2.1
  unfold xt_N
  exact ⟨by omega, q.2, fun h => by have := p.2.2 h; omega⟩
theorem pd_tp_b {l op at_ : Nat} {P : pd_P} (h : pd_b op < l) : pd_tp l ((op, at_) :: P) := fun q r e => by
  injection e with e1 e2
  rw [← e1]
  exact h
theorem pd_ar5 {pe : pd_P} (h : pd_ar pe) : ∀ q, q ∈ pe → 5 ≤ pd_b q.1 := fun q hq => pd_b_ar (h q hq)
theorem xk_brk {F : Nat → Int32} {T : Nat} {ord tst : Bool} {d s lv s1 lv1 : Nat} {k k1 : pd_K} (h91 : md_G F T s 91 = true) (hd : d < 8) (q : xk_S F T ord tst 5 (d + 1) (xt_N F T s) lv k true s1 lv1 k1) (h93 : md_G F T s1 93 = true) : xk_S F T ord tst 7 d s lv k true (xt_N F T s1) lv1 k1 := by
  obtain ⟨⟨⟨a1, a2⟩, b, m⟩, nx⟩ := q
  have b := b rfl
  have n0 := (nx rfl).1 (Nat.le_refl _)
  have p1 := xt_N_p (F := F) (Nat.le_of_lt (md_G_lt h91))
  have p2 := xt_N_p (F := F) a2
  have p3 := p1.2.2 (md_G_lt h91)
  refine ⟨⟨⟨by omega, p2.2.1⟩, fun _ => ⟨b.1, b.2.1, b.2.2.1, by omega, b.2.2.2.2⟩, fun P c hP _ => ?_⟩, fun _ => xk_nx7⟩
  have hb : pd_br ((32, 0) :: P) = d + 1 := by show pd_br P + 1 = d + 1; omega
  obtain ⟨pe, c1, V, r1, r2, r3, r4, r5⟩ := m ((32, 0) :: P) c hb (pd_tp_b (by decide))
  have tp : pd_tp 5 ((32, 0) :: P) := pd_tp_b (by decide)
  refine ⟨[], pd_fl pe c1, V, ((pd_R.one (ms_91 h91 (by omega))).tr r1).st (ms_s93 n0 ((pd_in_app r3.nb).trans rfl) h93 (pd_se_fl tp (pd_ar5 r3))), ?_, fun q hq => (by cases hq), ?_, r5⟩
  · exact r2.tr (pd_fl_ag r4.1 (fun q hq => (r4.2.1 q hq).2)).1 (Nat.le_refl _)
  · exact ⟨Nat.le_trans r4.1 (pd_fl_ag r4.1 (fun q hq => (r4.2.1 q hq).2)).2, fun q hq => (by cases hq), r4.2.2⟩
theorem xk_brk1 {F : Nat → Int32} {T : Nat} {ord tst : Bool} {d s lv s1 lv1 : Nat} {k k1 k2 : pd_K} {lv2 : Nat} (h91 : md_G F T s 91 = true) (hd : d < 8) (q : xk_S F T ord tst 5 (d + 1) (xt_N F T s) lv k false s1 lv1 k1) : xk_S F T ord tst 7 d s lv k false s1 lv2 k2 := by
  obtain ⟨⟨⟨a1, a2⟩, _, m⟩, _⟩ := q
  have p1 := xt_N_p (F := F) (Nat.le_of_lt (md_G_lt h91))
  refine xk_bad (by omega) a2 (fun P c hP => ?_)
  obtain ⟨x, y, z, r⟩ := m ((32, 0) :: P) c (by show pd_br P + 1 = d + 1; omega) (pd_tp_b (by decide))
  exact ⟨x, y, z, (pd_R.one (ms_91 h91 (by omega))).tr r⟩
theorem xk_brk2 {F : Nat → Int32} {T : Nat} {ord tst : Bool} {d s lv s1 lv1 lv2 : Nat} {k k1 k2 : pd_K} (h91 : md_G F T s 91 = true) (hd : d < 8) (q : xk_S F T ord tst 5 (d + 1) (xt_N F T s) lv k true s1 lv1 k1) (h93 : md_G F T s1 93 = false) : xk_S F T ord tst 7 d s lv k false s1 lv2 k2 := by
  obtain ⟨⟨⟨a1, a2⟩, b, m⟩, nx⟩ := q
  have n0 := (nx rfl).1 (Nat.le_refl _)
  have p1 := xt_N_p (F := F) (Nat.le_of_lt (md_G_lt h91))
  refine xk_bad (by omega) a2 (fun P c hP => ?_)
  obtain ⟨pe, c1, V, r1, r2, r3, r4, r5⟩ := m ((32, 0) :: P) c (by show pd_br P + 1 = d + 1; omega) (pd_tp_b (by decide))
  exact ⟨_, _, _, ((pd_R.one (ms_91 h91 (by omega))).tr r1).st (ms_s93f n0 ((pd_in_app r3.nb).trans rfl) h93)⟩
theorem xk_brk3 {F : Nat → Int32} {T : Nat} {ord tst : Bool} {d s lv lv2 : Nat} {k k2 : pd_K} (h91 : md_G F T s 91 = true) (hd : 8 ≤ d) : xk_S F T ord tst 7 d s lv k false s lv2 k2 := by
  have p := md_G_lt h91
  exact xk_bad (Nat.le_refl _) (by omega) (fun P c hP => ⟨_, _, _, pd_R.one (ms_91f h91 (by omega))⟩)
/-- at the head of a sum's, a term's chain: o is the operation that waits (-1: none) -/
def xk_A (F : Nat → Int32) (T : Nat) (ord tst : Bool) (l d s0 lv0 : Nat) (k0 : pd_K) (o : Int) (s lv : Nat) (k : pd_K) : Prop :=
  (o = -1 ∧ s = s0 ∧ lv = lv0 ∧ k = k0 ∧ s0 ≤ T) ∨ (6 ≤ o ∧ o ≤ 10 ∧ pd_b (o + 14).toNat = l ∧ s0 ≤ s ∧ s ≤ T ∧ lv0 < lv ∧ lv ≤ 50 ∧ k0.1 ≤ k.1 ∧ k.1 + 1 + s0 ≤ k0.1 + s ∧ pd_ag k0.1 k0 k ∧ ∀ P c, pd_br P = d → pd_tp l P → ∃ c1 V, pd_R F T ord tst (1, s0, lv0, P, c) (1, s, lv, ((o + 14).toNat, 0) :: P, c1) ∧ pd_ag c.1 c c1 ∧ dn (pd_g ord c1) c.1 c1.1 (lv - lv0) V ∧ dn (pc_g k) k0.1 k.1 (lv - lv0) V)
/-- what the class's code is behind the operand -/
def xk_k (o : Int) (k : pd_K) : pd_K := if o = -1 then k else pd_e k o 0
theorem xk_A.mid {F : Nat → Int32} {T : Nat} {ord tst : Bool} {l d s0 lv0 s lv s1 lv1 : Nat} {k0 k k1 : pd_K} {o : Int} (hl : 5 ≤ l) (h : xk_A F T ord tst l d s0 lv0 k0 o s lv k) (q : xk_S F T ord tst (l + 1) d s lv k true s1 lv1 k1) : xk_S0 F T ord tst l d s0 lv0 k0 true s1 lv1 (xk_k o k1) := by
  obtain ⟨⟨⟨a1, a2⟩, b, m⟩, _⟩ := q
  obtain ⟨b1, b2, b3, b4, b5⟩ := b rfl
  rcases h with ⟨h1, h2, h3, h4, _⟩ | ⟨h1, h2, h3, h4, h5, h6, h6', h7, h8, h9, hm⟩
  · subst h2 h3 h4
    unfold xk_k
    rw [if_pos h1]
    refine ⟨⟨a1, a2⟩, fun _ => ⟨b1, b2, b3, b4, b5⟩, fun P c hP ht => ?_⟩
    obtain ⟨pe, c1, V, r1, r2, r3, r4, r5⟩ := m P c hP (fun q r e => Nat.lt_succ_of_lt (ht q r e))
    exact ⟨pe, c1, V, r1, r2, r3, r4.le (Nat.le_succ _), r5⟩
  · unfold xk_k
    rw [if_neg (by omega)]
    refine ⟨⟨by omega, a2⟩, fun _ => ⟨by omega, b2, by show k0.1 ≤ k1.1 + 1; omega, by show k1.1 + 1 + s0 ≤ k0.1 + s1; omega, (h9.tr b5 h7).tr (pd_e_ag b3) h7⟩, fun P c hP ht => ?_⟩
    obtain ⟨c1, V1, r1, r2, r3, r4⟩ := hm P c hP ht
    have hb : pd_br (((o + 14).toNat, 0) :: P) = d := by
      show (bif decide (31 ≤ (o + 14).toNat) then pd_br P + 1 else pd_br P) = d
      rw [decide_eq_false (by omega)]
      exact hP
    obtain ⟨pe, c2, V2, u1, u2, u3, u4, u5⟩ := m (((o + 14).toNat, 0) :: P) c1 hb (pd_tp_b (by omega))
    have ez : ((o + 14).toNat : Int) = o + 14 := by omega
    refine ⟨pe ++ [((o + 14).toNat, 0)], c2, dn_bin (pd_o (o + 14)) V1 V2, ?_, r2.tr u2 r3.1, fun q hq => ?_, ?_, ?_⟩
    · have e : pe ++ [((o + 14).toNat, 0)] ++ P = pe ++ ((o + 14).toNat, 0) :: P := by rw [List.append_assoc]; rfl
      rw [e]
      exact r1.tr u1
    · rw [List.mem_append] at hq
      rcases hq with hq | hq
      · exact u3 q hq
      · rw [List.mem_singleton] at hq
        subst hq
        show 20 ≤ (o + 14).toNat ∧ (o + 14).toNat ≤ 24
        omega
    · rw [show lv1 - lv0 = (lv - lv0) + (lv1 - lv) by omega, show pd_o (o + 14) = pd_o ((o + 14).toNat : Int) by rw [ez]]
      exact pd_pe.bin r3 (by omega) u2 u4 (Nat.le_succ _) (by omega) (by omega) (by omega)
    · rw [show lv1 - lv0 = (lv - lv0) + (lv1 - lv) by omega]
      exact pc_bin (r4.cong (pc_g_ag b5)) (by omega) u5 h1
theorem xk_A.last {F : Nat → Int32} {T : Nat} {ord tst : Bool} {l d s0 lv0 s lv s1 lv1 : Nat} {k0 k k1 : pd_K} {o : Int} (hl : 5 ≤ l) (h : xk_A F T ord tst l d s0 lv0 k0 o s lv k) (q : xk_S F T ord tst (l + 1) d s lv k true s1 lv1 k1) (hx : xk_nx F T l s1) : xk_S F T ord tst l d s0 lv0 k0 true s1 lv1 (xk_k o k1) := ⟨xk_A.mid hl h q, fun _ => hx⟩
theorem xk_A.next {F : Nat → Int32} {T : Nat} {ord tst : Bool} {l d s0 lv0 s lv s1 lv1 o1 : Nat} {k0 k k1 : pd_K} {o : Int} (hl : 5 ≤ l) (h : xk_A F T ord tst l d s0 lv0 k0 o s lv k) (q : xk_S F T ord tst (l + 1) d s lv k true s1 lv1 k1) (ho : md_s F T s1 = o1) (h20 : 20 ≤ o1) (h24 : o1 ≤ 24) (hb : pd_b o1 = l) (hlt : s1 < T) : xk_A F T ord tst l d s0 lv0 k0 ((o1 : Int) - 14) (xt_N F T s1) lv1 (xk_k o k1) := by
  obtain ⟨⟨a1, a2⟩, b, m⟩ := xk_A.mid hl h q
  obtain ⟨b1, b2, b3, b4, b5⟩ := b rfl
  have p := xt_N_p (F := F) a2
  have p2 := p.2.2 hlt
  have en : ((o1 : Int) - 14 + 14).toNat = o1 := by omega
  refine Or.inr ⟨by omega, by omega, by rw [en]; exact hb, by omega, p.2.1, b1, b2, b3, by omega, b5, fun P c hP ht => ?_⟩
  obtain ⟨pe, c1, V, r1, r2, r3, r4, r5⟩ := m P c hP ht
  rw [en]
  have fa := pd_fl_ag r4.1 (fun q hq => (r4.2.1 q hq).2)
  exact ⟨pd_fl pe c1, V, r1.st (ms_so ho (by omega) (pd_se_fl (by rw [hb]; exact ht) (by rw [hb]; exact fun q hq => (r4.2.1 q hq).1))), r2.tr fa.1 (Nat.le_refl _), r4.2.2, r5⟩
theorem xk_A.fail {F : Nat → Int32} {T : Nat} {ord tst : Bool} {l d s0 lv0 s lv s1 lv1 lv2 : Nat} {k0 k k1 k2 : pd_K} {o : Int} (h : xk_A F T ord tst l d s0 lv0 k0 o s lv k) (q : xk_S F T ord tst (l + 1) d s lv k false s1 lv1 k1) : xk_S F T ord tst l d s0 lv0 k0 false s1 lv2 k2 := by
  obtain ⟨⟨⟨a1, a2⟩, _, m⟩, _⟩ := q
  rcases h with ⟨h1, h2, h3, h4, _⟩ | ⟨h1, h2, h3, h4, h5, h6, h6', h7, h8, h9, hm⟩
  · subst h2 h3 h4
    exact ⟨⟨⟨a1, a2⟩, fun h => (by cases h), fun P c hP ht => m P c hP (fun q r e => Nat.lt_succ_of_lt (ht q r e))⟩, fun h => (by cases h)⟩
  · refine ⟨⟨⟨by omega, a2⟩, fun h => (by cases h), fun P c hP ht => ?_⟩, fun h => (by cases h)⟩
    obtain ⟨c1, V1, r1, r2, r3, r4⟩ := hm P c hP ht
    have hb : pd_br (((o + 14).toNat, 0) :: P) = d := by
      show (bif decide (31 ≤ (o + 14).toNat) then pd_br P + 1 else pd_br P) = d
      rw [decide_eq_false (by omega)]
      exact hP
    obtain ⟨x, y, z, u⟩ := m (((o + 14).toNat, 0) :: P) c1 hb (pd_tp_b (by omega))
    exact ⟨x, y, z, r1.tr u⟩
end PDK
