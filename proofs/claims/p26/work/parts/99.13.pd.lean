/-! THE MODEL'S READER, purely: code, what waits to be put behind it (the pile), what it then stands for. -/
section PDA
/-- code: how much, operations, arguments -/
abbrev pd_K : Type := Nat × (Nat → Int) × (Nat → Int)
abbrev pd_P : Type := List (Nat × Nat)
def pd_u (f : Nat → Int) (i : Nat) (v : Int) : Nat → Int := fun k => if k = i then v else f k
theorem pd_u_eq {f : Nat → Int} {i : Nat} {v : Int} : pd_u f i v i = v := if_pos rfl
theorem pd_u_ne {f : Nat → Int} {i k : Nat} {v : Int} (h : k ≠ i) : pd_u f i v k = f k := if_neg h
def pd_e (c : pd_K) (op ar : Int) : pd_K := (c.1 + 1, pd_u c.2.1 c.1 op, pd_u c.2.2 c.1 ar)
def pd_sk (op : Nat) : Prop := op = 29 ∨ op = 30
def pd_skB (op : Nat) : Bool := op == 29 || op == 30
theorem pd_skB_1 {op : Nat} (h : pd_sk op) : pd_skB op = true := by
  rcases h with rfl | rfl <;> rfl
theorem pd_skB_0 {op : Nat} (h : ¬ pd_sk op) : pd_skB op = false := by
  unfold pd_skB pd_sk at *
  simp only [Bool.or_eq_false_iff, beq_eq_false_iff_ne, ne_eq]
  omega
/-- how an operation binds -/
def pd_b (op : Nat) : Nat := if 31 ≤ op then 0 else if op = 30 then 1 else if op = 29 then 2 else if op = 28 then 3 else if 25 ≤ op then 4 else if 22 ≤ op then 6 else 5
def pd_f1 (q : Nat × Nat) (c : pd_K) : pd_K := bif pd_skB q.1 then (c.1, c.2.1, pd_u c.2.2 q.2 c.1) else pd_e c q.1 0
def pd_fl : pd_P → pd_K → pd_K
  | [], c => c
  | q :: r, c => pd_fl r (pd_f1 q c)
def pd_se (l : Nat) : pd_P → pd_K → pd_P × pd_K
  | [], c => ([], c)
  | q :: r, c => if l ≤ pd_b q.1 then pd_se l r (pd_f1 q c) else (q :: r, c)
/-- what lies on top binds less -/
def pd_tp (l : Nat) (P : pd_P) : Prop := ∀ q r, P = q :: r → pd_b q.1 < l
theorem pd_se_fl {l : Nat} {P : pd_P} (hP : pd_tp l P) : ∀ {pe : pd_P} {c : pd_K}, (∀ q, q ∈ pe → l ≤ pd_b q.1) → pd_se l (pe ++ P) c = (P, pd_fl pe c) := by
  intro pe
  induction pe with
  | nil =>
    intro c _
    cases P with
    | nil => rfl
    | cons q r =>
      show (if l ≤ pd_b q.1 then _ else _) = _
      have := hP q r rfl
      rw [if_neg (by omega)]
      rfl
  | cons q r ih =>
    intro c h
    show (if l ≤ pd_b q.1 then _ else _) = _
    rw [if_pos (h q (List.mem_cons_self ..))]
    exact ih (fun x hx => h x (List.mem_cons_of_mem _ hx))
theorem pd_fl_app {pe : pd_P} : ∀ {p1 : pd_P} {c : pd_K}, pd_fl (p1 ++ pe) c = pd_fl pe (pd_fl p1 c) := by
  intro p1
  induction p1 with
  | nil => intro c; rfl
  | cons q r ih => intro c; exact ih
/-- below a two codes are the same -/
def pd_ag (a : Nat) (c c' : pd_K) : Prop := ∀ k, k < a → c'.2.1 k = c.2.1 k ∧ c'.2.2 k = c.2.2 k
theorem pd_ag.refl {a : Nat} {c : pd_K} : pd_ag a c c := fun _ _ => ⟨rfl, rfl⟩
theorem pd_ag.tr {a b : Nat} {c c' c'' : pd_K} (h : pd_ag a c c') (h' : pd_ag b c' c'') (hab : a ≤ b) : pd_ag a c c'' := fun k hk => ⟨(h' k (by omega)).1.trans (h k hk).1, (h' k (by omega)).2.trans (h k hk).2⟩
theorem pd_ag.le {a b : Nat} {c c' : pd_K} (h : pd_ag b c c') (hab : a ≤ b) : pd_ag a c c' := fun k hk => h k (by omega)
theorem pd_e_ag {c : pd_K} {op ar : Int} {a : Nat} (h : a ≤ c.1) : pd_ag a c (pd_e c op ar) := fun k hk => ⟨pd_u_ne (by omega), pd_u_ne (by omega)⟩
theorem pd_f1_ag {q : Nat × Nat} {c : pd_K} {a : Nat} (h : a ≤ c.1) (hq : pd_sk q.1 → a ≤ q.2) : pd_ag a c (pd_f1 q c) ∧ c.1 ≤ (pd_f1 q c).1 := by
  unfold pd_f1
  by_cases p : pd_sk q.1
  · rw [pd_skB_1 p]
    have := hq p
    exact ⟨fun k hk => ⟨rfl, pd_u_ne (by omega)⟩, Nat.le_refl _⟩
  · rw [pd_skB_0 p]
    exact ⟨pd_e_ag h, Nat.le_succ _⟩
theorem pd_fl_ag {a : Nat} : ∀ {pe : pd_P} {c : pd_K}, a ≤ c.1 → (∀ q, q ∈ pe → pd_sk q.1 → a ≤ q.2) → pd_ag a c (pd_fl pe c) ∧ c.1 ≤ (pd_fl pe c).1 := by
  intro pe
  induction pe with
  | nil => intro c _ _; exact ⟨pd_ag.refl, Nat.le_refl _⟩
  | cons q r ih =>
    intro c h hq
    have k1 := pd_f1_ag h (hq q (List.mem_cons_self ..))
    have k2 := ih (c := pd_f1 q c) (by omega) (fun x hx => hq x (List.mem_cons_of_mem _ hx))
    exact ⟨k1.1.tr k2.1 (Nat.le_refl _), by show c.1 ≤ (pd_fl r (pd_f1 q c)).1; omega⟩
/-- an operation on two values -/
def pd_o (op x y : Int) : Option Int :=
  if (op = 23 ∨ op = 24) ∧ y = 0 then none else
  let r := if op = 20 then x + y else if op = 21 then x - y else if op = 22 then x * y else if op = 23 then x.tdiv y else if op = 24 then x - x.tdiv y * y else if op = 25 then (if x < y then 1 else 0) else if op = 26 then (if y < x then 1 else 0) else (if x = y then 1 else 0)
  if -1000000000 ≤ r ∧ r ≤ 1000000000 then some r else none
/-- which word -/
def pd_um (ord : Bool) (op ar : Int) : Nat := if ord = true ∧ op = 6 then 5 + ar.toNat else if ord = true ∧ op = 7 then 13 + ar.toNat else op.toNat - 1
/-- a step of the model's evaluator, of the class's -/
def pd_g (ord : Bool) (c : pd_K) : dn_G := fun wd k st =>
  if c.2.1 k < 20 then some (some (k + 1, (if c.2.1 k = 0 then c.2.2 k else wd (pd_um ord (c.2.1 k) (c.2.2 k))) :: st))
  else if c.2.1 k < 28 then (match st with
    | y :: x :: r => some ((pd_o (c.2.1 k) x y).map (fun v => (k + 1, v :: r)))
    | _ => none)
  else if c.2.1 k = 28 then (match st with
    | x :: r => some (some (k + 1, (1 - x) :: r))
    | _ => none)
  else (match st with
    | x :: r => some (some (if x = (if c.2.1 k = 29 then 0 else 1) then ((c.2.2 k).toNat, x :: r) else (k + 1, r)))
    | _ => none)
def pc_g (c : pd_K) : dn_G := fun wd k st =>
  if c.2.1 k = 1 ∨ c.2.1 k = 2 then (if 51 ≤ st.length then some none else some (some (k + 1, (if c.2.1 k = 1 then c.2.2 k else wd (c.2.2 k).toNat) :: st)))
  else if c.2.1 k = 3 then (match st with
    | x :: r => some (some (k + 1, (1 - x) :: r))
    | _ => none)
  else if c.2.1 k = 4 ∨ c.2.1 k = 5 then (match st with
    | x :: r => some (some (if x = (if c.2.1 k = 4 then 0 else 1) then (max (k + 1) (c.2.2 k).toNat, x :: r) else (k + 1, r)))
    | _ => none)
  else (match st with
    | y :: x :: r => some ((pd_o (c.2.1 k + 14) x y).map (fun v => (k + 1, v :: r)))
    | _ => none)
theorem pd_g_ag {ord : Bool} {a e : Nat} {c c' : pd_K} (h : pd_ag e c c') : ∀ (wd : Nat → Int) (k : Nat), a ≤ k → k < e → pd_g ord c' wd k = pd_g ord c wd k := by
  intro wd k _ hk
  unfold pd_g
  rw [(h k hk).1, (h k hk).2]
theorem pc_g_ag {a e : Nat} {c c' : pd_K} (h : pd_ag e c c') : ∀ (wd : Nat → Int) (k : Nat), a ≤ k → k < e → pc_g c' wd k = pc_g c wd k := by
  intro wd k _ hk
  unfold pc_g
  rw [(h k hk).1, (h k hk).2]
/-- the code from a on, once pe has been put behind it, stands for V -/
def pd_pe (ord : Bool) (l a m : Nat) (pe : pd_P) (c : pd_K) (V : dn_V) : Prop := a ≤ c.1 ∧ (∀ q, q ∈ pe → l ≤ pd_b q.1 ∧ (pd_sk q.1 → a ≤ q.2)) ∧ dn (pd_g ord (pd_fl pe c)) a (pd_fl pe c).1 m V
theorem pd_pe.le {ord : Bool} {l l' a m : Nat} {pe : pd_P} {c : pd_K} {V : dn_V} (h : pd_pe ord l a m pe c V) (hl : l' ≤ l) : pd_pe ord l' a m pe c V := ⟨h.1, fun q hq => ⟨Nat.le_trans hl (h.2.1 q hq).1, (h.2.1 q hq).2⟩, h.2.2⟩
/-- a leaf -/
theorem pd_pe.leaf {ord : Bool} {l : Nat} {c : pd_K} {op ar : Int} (h : op < 20) : pd_pe ord l c.1 1 [] (pd_e c op ar) (fun wd => some (if op = 0 then ar else wd (pd_um ord op ar))) := by
  have e1 : (pd_e c op ar).2.1 c.1 = op := pd_u_eq
  have e2 : (pd_e c op ar).2.2 c.1 = ar := pd_u_eq
  refine ⟨Nat.le_succ _, fun q hq => (by cases hq), ?_⟩
  refine dn_leaf (v := fun wd => if op = 0 then ar else wd (pd_um ord op ar)) (fun wd st _ => ?_) (fun wd st x hx => ?_)
  · show pd_g ord (pd_e c op ar) wd c.1 st = _
    unfold pd_g
    rw [e1, e2, if_pos h]
  · have hx : pd_g ord (pd_e c op ar) wd c.1 st = some (some x) := hx
    unfold pd_g at hx
    rw [e1, e2, if_pos h] at hx
    injection hx with hx
    injection hx with hx
    rw [← hx]
/-- an operation on two: the left one settled in c1, the right one behind it -/
theorem pd_pe.bin {ord : Bool} {l l' a m1 m2 op : Nat} {pe : pd_P} {c1 c2 : pd_K} {V1 V2 : dn_V} (d1 : dn (pd_g ord c1) a c1.1 m1 V1) (h1 : 1 ≤ m1) (hag : pd_ag c1.1 c1 c2) (d2 : pd_pe ord l' c1.1 m2 pe c2 V2) (hl : l ≤ l') (ho : l ≤ pd_b op) (h20 : 20 ≤ op) (h28 : op < 28) : pd_pe ord l a (m1 + m2) (pe ++ [(op, 0)]) c2 (dn_bin (pd_o op) V1 V2) := by
  obtain ⟨k1, k2, k3⟩ := d2
  have ns : ¬ pd_sk op := by unfold pd_sk; omega
  have e : pd_fl (pe ++ [(op, 0)]) c2 = pd_e (pd_fl pe c2) op 0 := by
    rw [pd_fl_app]
    show pd_f1 (op, 0) _ = _
    unfold pd_f1
    rw [pd_skB_0 ns]
    rfl
  obtain ⟨q1, q2⟩ := pd_fl_ag (pe := pe) (c := c2) k1 (fun q hq => (k2 q hq).2)
  refine ⟨Nat.le_trans d1.1 k1, fun q hq => ?_, ?_⟩
  · rw [List.mem_append] at hq
    rcases hq with hq | hq
    · exact ⟨Nat.le_trans hl (k2 q hq).1, fun hs => Nat.le_trans d1.1 ((k2 q hq).2 hs)⟩
    · rw [List.mem_singleton] at hq
      subst hq
      exact ⟨ho, fun hs => absurd hs ns⟩
  · rw [e]
    have g1 : (pd_e (pd_fl pe c2) op 0).2.1 (pd_fl pe c2).1 = op := pd_u_eq
    have c34 : pd_ag (pd_fl pe c2).1 (pd_fl pe c2) (pd_e (pd_fl pe c2) op 0) := pd_e_ag (Nat.le_refl _)
    refine dn.bin (d1.cong (pd_g_ag ((hag.tr q1 (Nat.le_refl _)).tr c34 (by omega)))) (k3.cong (pd_g_ag c34)) h1 (fun wd x y r => ?_) (fun wd st x hx => ?_)
    · unfold pd_g
      rw [g1, if_neg (by omega), if_pos (by omega)]
    · unfold pd_g at hx
      rw [g1, if_neg (by omega), if_pos (by omega)] at hx
      split at hx
      · rename_i y0 x0 r0
        cases ho2 : pd_o op x0 y0 with
        | none => rw [ho2] at hx; cases hx
        | some v =>
          rw [ho2] at hx
          injection hx with hx
          have hx : some ((pd_fl pe c2).1 + 1, v :: r0) = some x := hx
          injection hx with hx
          rw [← hx]
      · cases hx
/-- "and", "or": op stands at b, the right one behind it -/
theorem pd_pe.skip {ord : Bool} {l l' a m1 m2 op : Nat} {pe : pd_P} {c1 c2 : pd_K} {V1 V2 : dn_V} (d1 : dn (pd_g ord c1) a c1.1 m1 V1) (hag : pd_ag (c1.1 + 1) (pd_e c1 op 0) c2) (d2 : pd_pe ord l' (c1.1 + 1) m2 pe c2 V2) (hl : l ≤ l') (ho : l ≤ pd_b op) (hs : pd_sk op) : pd_pe ord l a (m1 + m2) (pe ++ [(op, c1.1)]) c2 (dn_skip (if op = 29 then 0 else 1) V1 V2) := by
  obtain ⟨k1, k2, k3⟩ := d2
  have e : pd_fl (pe ++ [(op, c1.1)]) c2 = ((pd_fl pe c2).1, (pd_fl pe c2).2.1, pd_u (pd_fl pe c2).2.2 c1.1 (pd_fl pe c2).1) := by
    rw [pd_fl_app]
    show pd_f1 (op, c1.1) _ = _
    unfold pd_f1
    rw [pd_skB_1 hs]
    rfl
  obtain ⟨q1, q2⟩ := pd_fl_ag (pe := pe) (c := c2) k1 (fun q hq => (k2 q hq).2)
  refine ⟨by have := d1.1; omega, fun q hq => ?_, ?_⟩
  · rw [List.mem_append] at hq
    rcases hq with hq | hq
    · exact ⟨Nat.le_trans hl (k2 q hq).1, fun hs => by have := (k2 q hq).2 hs; have := d1.1; omega⟩
    · rw [List.mem_singleton] at hq
      subst hq
      exact ⟨ho, fun _ => d1.1⟩
  · rw [e]
    generalize hc3 : pd_fl pe c2 = c3 at *
    have g0 := (hag.tr q1 (Nat.le_refl _)) c1.1 (by omega)
    have g1 : c3.2.1 c1.1 = op := g0.1.trans pd_u_eq
    have agA : pd_ag c1.1 c1 (c3.1, c3.2.1, pd_u c3.2.2 c1.1 c3.1) := fun k hk => by
      have p := ((pd_e_ag (op := op) (ar := 0) (Nat.le_refl c1.1)).tr (hag.tr q1 (Nat.le_refl _)) (by omega)) k hk
      exact ⟨p.1, (pd_u_ne (by omega)).trans p.2⟩
    have agB : ∀ (wd : Nat → Int) (k : Nat), c1.1 + 1 ≤ k → k < c3.1 → pd_g ord (c3.1, c3.2.1, pd_u c3.2.2 c1.1 c3.1) wd k = pd_g ord c3 wd k := by
      intro wd k h1 _
      unfold pd_g
      dsimp only
      rw [pd_u_ne (by omega)]
    have o1 : ¬ ((op : Int) < 20) := by unfold pd_sk at hs; omega
    have o2 : ¬ ((op : Int) < 28) := by unfold pd_sk at hs; omega
    have o3 : ¬ ((op : Int) = 28) := by unfold pd_sk at hs; omega
    have o4 : (if (op : Int) = 29 then (0 : Int) else 1) = (if op = 29 then 0 else 1) := by
      by_cases p : op = 29
      · rw [if_pos p, if_pos (by omega)]
      · rw [if_neg p, if_neg (by omega)]
    refine dn.skip (b := c1.1) (d1.cong (pd_g_ag agA)) (k3.cong agB) (fun wd x r => ?_) (fun wd st x hx => ?_)
    · unfold pd_g
      dsimp only
      rw [g1, pd_u_eq, if_neg o1, if_neg o2, if_neg o3, o4, Int.toNat_natCast]
    · unfold pd_g at hx
      dsimp only at hx
      rw [g1, pd_u_eq, if_neg o1, if_neg o2, if_neg o3, o4, Int.toNat_natCast] at hx
      split at hx
      · rename_i x0 r0
        injection hx with hx
        injection hx with hx
        rw [← hx]
        by_cases p : x0 = (if op = 29 then (0 : Int) else 1)
        · rw [if_pos p]; exact Or.inl rfl
        · rw [if_neg p]; exact Or.inr rfl
      · cases hx
theorem pd_pe.not {ord : Bool} {l a m : Nat} {pe : pd_P} {c : pd_K} {V : dn_V} (d : pd_pe ord l a m pe c V) (hl : l ≤ 3) : pd_pe ord l a m (pe ++ [(28, 0)]) c (dn_not V) := by
  obtain ⟨k1, k2, k3⟩ := d
  have e : pd_fl (pe ++ [(28, 0)]) c = pd_e (pd_fl pe c) 28 0 := by
    rw [pd_fl_app]
    rfl
  refine ⟨k1, fun q hq => ?_, ?_⟩
  · rw [List.mem_append] at hq
    rcases hq with hq | hq
    · exact k2 q hq
    · rw [List.mem_singleton] at hq
      subst hq
      exact ⟨hl, fun hs => by rcases hs with hs | hs <;> cases hs⟩
  · rw [e]
    have g1 : (pd_e (pd_fl pe c) 28 0).2.1 (pd_fl pe c).1 = 28 := pd_u_eq
    refine dn.not (k3.cong (pd_g_ag (pd_e_ag (Nat.le_refl _)))) (fun wd x r => ?_) (fun wd st x hx => ?_)
    · unfold pd_g
      rw [g1]
      rfl
    · unfold pd_g at hx
      rw [g1] at hx
      split at hx
      · rename_i h; exact absurd h (by decide)
      · split at hx
        · rename_i h; exact absurd h (by decide)
        · split at hx
          · split at hx
            · injection hx with hx
              injection hx with hx
              rw [← hx]
            · cases hx
          · rename_i h; exact absurd rfl h
/-- settled -/
theorem pd_pe.dn {ord : Bool} {l a m : Nat} {pe : pd_P} {c : pd_K} {V : dn_V} (d : pd_pe ord l a m pe c V) : dn (pd_g ord (pd_fl pe c)) a (pd_fl pe c).1 m V := d.2.2
/-- the class's: a leaf, an operation, "not", "and", "or" -/
theorem pc_leaf {c : pd_K} {op ar : Int} (h : op = 1 ∨ op = 2) : dn (pc_g (pd_e c op ar)) c.1 (c.1 + 1) 1 (fun wd => some (if op = 1 then ar else wd ar.toNat)) := by
  have e1 : (pd_e c op ar).2.1 c.1 = op := pd_u_eq
  have e2 : (pd_e c op ar).2.2 c.1 = ar := pd_u_eq
  refine dn_leaf (v := fun wd => if op = 1 then ar else wd ar.toNat) (fun wd st hs => ?_) (fun wd st x hx => ?_)
  · unfold pc_g
    rw [e1, e2, if_pos h, if_neg (by omega)]
  · unfold pc_g at hx
    rw [e1, e2, if_pos h] at hx
    split at hx
    · cases hx
    · injection hx with hx
      injection hx with hx
      rw [← hx]
theorem pc_bin {a m1 m2 b : Nat} {op : Int} {c : pd_K} {V1 V2 : dn_V} (d1 : dn (pc_g c) a b m1 V1) (h1 : 1 ≤ m1) (d2 : dn (pc_g c) b c.1 m2 V2) (ho : 6 ≤ op) : dn (pc_g (pd_e c op 0)) a (c.1 + 1) (m1 + m2) (dn_bin (pd_o (op + 14)) V1 V2) := by
  have g1 : (pd_e c op 0).2.1 c.1 = op := pd_u_eq
  have ag : pd_ag c.1 c (pd_e c op 0) := pd_e_ag (Nat.le_refl _)
  have n1 : ¬ (op = 1 ∨ op = 2) := by omega
  have n2 : ¬ (op = 3) := by omega
  have n3 : ¬ (op = 4 ∨ op = 5) := by omega
  refine dn.bin (d1.cong (pc_g_ag (ag.le d2.1))) (d2.cong (pc_g_ag ag)) h1 (fun wd x y r => ?_) (fun wd st x hx => ?_)
  · unfold pc_g
    rw [g1, if_neg n1, if_neg n2, if_neg n3]
  · unfold pc_g at hx
    rw [g1, if_neg n1, if_neg n2, if_neg n3] at hx
    split at hx
    · rename_i y0 x0 r0
      cases ho2 : pd_o (op + 14) x0 y0 with
      | none => rw [ho2] at hx; cases hx
      | some v =>
        rw [ho2] at hx
        injection hx with hx
        have hx : some (c.1 + 1, v :: r0) = some x := hx
        injection hx with hx
        rw [← hx]
    · cases hx
theorem pc_not {a m : Nat} {c : pd_K} {V : dn_V} (d : dn (pc_g c) a c.1 m V) : dn (pc_g (pd_e c 3 0)) a (c.1 + 1) m (dn_not V) := by
  have g1 : (pd_e c 3 0).2.1 c.1 = 3 := pd_u_eq
  refine dn.not (d.cong (pc_g_ag (pd_e_ag (Nat.le_refl _)))) (fun wd x r => ?_) (fun wd st x hx => ?_)
  · unfold pc_g
    rw [g1, if_neg (by decide), if_pos rfl]
  · unfold pc_g at hx
    rw [g1, if_neg (by decide), if_pos rfl] at hx
    split at hx
    · injection hx with hx
      injection hx with hx
      rw [← hx]
    · cases hx
/-- "and" (4), "or" (5) stands at b and names the end -/
theorem pc_skip {a b m1 m2 : Nat} {op : Int} {c : pd_K} {V1 V2 : dn_V} (d1 : dn (pc_g c) a b m1 V1) (d2 : dn (pc_g c) (b + 1) c.1 m2 V2) (ho : op = 4 ∨ op = 5) (hb : c.2.1 b = op) : dn (pc_g (c.1, c.2.1, pd_u c.2.2 b c.1)) a c.1 (m1 + m2) (dn_skip (if op = 4 then 0 else 1) V1 V2) := by
  have n1 : ¬ (op = 1 ∨ op = 2) := by omega
  have n2 : ¬ (op = 3) := by omega
  have lt := d2.1
  have agA : pd_ag b c (c.1, c.2.1, pd_u c.2.2 b c.1) := fun k hk => ⟨rfl, pd_u_ne (by omega)⟩
  have agB : ∀ (wd : Nat → Int) (k : Nat), b + 1 ≤ k → k < c.1 → pc_g (c.1, c.2.1, pd_u c.2.2 b c.1) wd k = pc_g c wd k := by
    intro wd k h1 _
    unfold pc_g
    dsimp only
    rw [pd_u_ne (by omega)]
  refine dn.skip (b := b) (d1.cong (pc_g_ag agA)) (d2.cong agB) (fun wd x r => ?_) (fun wd st x hx => ?_)
  · unfold pc_g
    dsimp only
    rw [hb, pd_u_eq, if_neg n1, if_neg n2, if_pos ho, Int.toNat_natCast, show max (b + 1) c.1 = c.1 by omega]
  · unfold pc_g at hx
    dsimp only at hx
    rw [hb, pd_u_eq, if_neg n1, if_neg n2, if_pos ho, Int.toNat_natCast, show max (b + 1) c.1 = c.1 by omega] at hx
    split at hx
    · rename_i x0 r0
      injection hx with hx
      injection hx with hx
      rw [← hx]
      by_cases p : x0 = (if op = 4 then (0 : Int) else 1)
      · rw [if_pos p]; exact Or.inl rfl
      · rw [if_neg p]; exact Or.inr rfl
    · cases hx
end PDA
