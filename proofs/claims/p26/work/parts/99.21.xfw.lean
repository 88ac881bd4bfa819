/-! ROWS OF WORDS -/
section XFW
/-- what the class answers of a row of words: the Java loop -/
def xc_w (F : Nat → Int32) (s e : Nat) : List Int → Int → Nat → Bool → Int
  | [], _, _, _ => -1
  | c :: r, i, l, b => if c = 32 then (if b = true ∧ l = e - s then i else xc_w F s e r (i + 1) 0 true) else xc_w F s e r i (l + 1) (b && (decide (s + l < e) && decide ((F (s + l)).toInt = c)))
theorem xc_w_f {F : Nat → Int32} {s e : Nat} : ∀ {w r : List Int} {i : Int} {l : Nat}, (∀ c, c ∈ w → c ≠ 32) → xc_w F s e (w ++ 32 :: r) i l false = xc_w F s e r (i + 1) 0 true := by
  intro w
  induction w with
  | nil => intro r i l _; show (if (32 : Int) = 32 then (if false = true ∧ _ then _ else _) else _) = _; rw [if_pos rfl, if_neg (by simp)]
  | cons c w ih =>
    intro r i l h
    show (if c = 32 then _ else xc_w F s e (w ++ 32 :: r) i (l + 1) (false && _)) = _
    rw [if_neg (h c (List.mem_cons_self ..)), Bool.false_and]
    exact ih (fun x hx => h x (List.mem_cons_of_mem _ hx))
theorem xc_w_t {F : Nat → Int32} {s e : Nat} (he : s ≤ e) : ∀ {w r : List Int} {i : Int} {l : Nat}, (∀ c, c ∈ w → c ≠ 32) → ((e = s + l + w.length ∧ ∀ j, j < w.length → (F (s + l + j)).toInt = w.getD j 0) → xc_w F s e (w ++ 32 :: r) i l true = i) ∧ (¬ (e = s + l + w.length ∧ ∀ j, j < w.length → (F (s + l + j)).toInt = w.getD j 0) → xc_w F s e (w ++ 32 :: r) i l true = xc_w F s e r (i + 1) 0 true) := by
  intro w
  induction w with
  | nil =>
    intro r i l _
    constructor
    · intro h
      show (if (32 : Int) = 32 then (if true = true ∧ l = e - s then _ else _) else _) = _
      have h1 : e = s + l + 0 := h.1
      rw [if_pos rfl, if_pos ⟨rfl, by omega⟩]
    · intro h
      show (if (32 : Int) = 32 then (if true = true ∧ l = e - s then _ else _) else _) = _
      rw [if_pos rfl, if_neg (fun q => h ⟨by show e = s + l + 0; omega, fun j hj => absurd hj (Nat.not_lt_zero j)⟩)]
  | cons c w ih =>
    intro r i l h
    have hc := h c (List.mem_cons_self ..)
    have hw : ∀ x, x ∈ w → x ≠ 32 := fun x hx => h x (List.mem_cons_of_mem _ hx)
    have e0 : xc_w F s e (c :: w ++ 32 :: r) i l true = xc_w F s e (w ++ 32 :: r) i (l + 1) (decide (s + l < e) && decide ((F (s + l)).toInt = c)) := by
      show (if c = 32 then _ else xc_w F s e (w ++ 32 :: r) i (l + 1) (true && _)) = _
      rw [if_neg hc, Bool.true_and]
    have ix : ∀ j, s + (l + 1) + j = s + l + (j + 1) := fun j => by omega
    constructor
    · rintro ⟨h1, h2⟩
      have h1 : e = s + l + (w.length + 1) := h1
      have z := h2 0 (Nat.succ_pos _)
      have z : (F (s + l + 0)).toInt = c := z
      rw [Nat.add_zero] at z
      rw [e0, decide_eq_true (by omega), decide_eq_true z]
      exact (ih hw).1 ⟨by omega, fun j hj => by rw [ix]; exact h2 (j + 1) (Nat.succ_lt_succ hj)⟩
    · intro hn
      rw [e0]
      by_cases p : s + l < e ∧ (F (s + l)).toInt = c
      · rw [decide_eq_true p.1, decide_eq_true p.2]
        refine (ih hw).2 (fun q => hn ⟨by show e = s + l + (w.length + 1); have := q.1; omega, fun j hj => ?_⟩)
        match j, hj with
        | 0, _ => rw [Nat.add_zero]; exact p.2
        | j + 1, hj =>
          rw [← ix]
          exact q.2 j (Nat.lt_of_succ_lt_succ hj)
      · have f : (decide (s + l < e) && decide ((F (s + l)).toInt = c)) = false := by
          rw [Bool.and_eq_false_iff, decide_eq_false_iff_not, decide_eq_false_iff_not]
          by_cases p1 : s + l < e
          · exact Or.inr (fun p2 => p ⟨p1, p2⟩)
          · exact Or.inl p1
        rw [f]
        exact xc_w_f hw
def xs_fl : List (List Int) → List Int
  | [] => []
  | w :: r => w ++ 32 :: xs_fl r
def xs_ws (ws : List (List Int)) : Bool := ws.all (fun w => xs_lwB w)
def xs_nd : List Int → Bool
  | [] => true
  | c :: r => !r.contains c && xs_nd r
theorem md_at_n {F : Nat → Int32} {T s : Nat} : ∀ {l : List Int} {k a : Nat}, (∀ c, c ∈ l → md_W F T s c = false) → md_at F T s l k a = a := by
  intro l
  induction l with
  | nil => intro k a _; rfl
  | cons c r ih =>
    intro k a h
    show md_at F T s r (k + 1) (bif md_W F T s c then k + 1 else a) = a
    rw [h c (List.mem_cons_self ..)]
    exact ih (fun x hx => h x (List.mem_cons_of_mem _ hx))
theorem xc_w_all {F : Nat → Int32} {T s : Nat} (hs : s ≤ T) : ∀ {ws : List (List Int)} {i : Nat}, xs_ws ws = true → xs_nd (ws.map xs_h) = true → xc_w F s (xt_E F T s) (xs_fl ws) i 0 true = (md_at F T s (ws.map xs_h) i 0 : Int) - 1 := by
  intro ws
  induction ws with
  | nil => intro i _ _; rfl
  | cons w r ih =>
    intro i h1 h2
    have hE := xt_E_p (F := F) hs
    have h1 : (xs_lwB w && xs_ws r) = true := h1
    have h2 : (!(r.map xs_h).contains (xs_h w) && xs_nd (r.map xs_h)) = true := h2
    rw [Bool.and_eq_true] at h1 h2
    obtain ⟨q1, q2, q3⟩ := xs_lwp h1.1
    have n32 : ∀ c, c ∈ w → c ≠ 32 := by
      intro c hc
      obtain ⟨j, hj, e⟩ := List.mem_iff_getElem.mp hc
      have p := q1 j hj
      rw [List.getD_eq_getElem?_getD, List.getElem?_eq_getElem hj, e] at p
      have p : 97 ≤ c ∧ c ≤ 122 := p
      omega
    have key := xc_w_t (F := F) (e := xt_E F T s) hE.1 (w := w) (r := xs_fl r) (i := i) (l := 0) n32
    show xc_w F s (xt_E F T s) (w ++ 32 :: xs_fl r) i 0 true = (md_at F T s (r.map xs_h) (i + 1) (bif md_W F T s (xs_h w) then i + 1 else 0) : Int) - 1
    cases hm : md_W F T s (xs_h w) with
    | true =>
      have q := (md_W_is hs h1.1).mpr hm
      rw [key.1 ⟨q.1, q.2⟩]
      have nn : ∀ c, c ∈ r.map xs_h → md_W F T s c = false := by
        intro c hc
        refine md_W1 hm (fun e => ?_)
        have := h2.1
        rw [e, List.contains_iff_mem.mpr hc] at this
        cases this
      show (i : Int) = (md_at F T s (r.map xs_h) (i + 1) (i + 1) : Int) - 1
      rw [md_at_n nn]
      omega
    | false =>
      have q : ¬ xt_is F s (xt_E F T s) w := fun q => by rw [(md_W_is hs h1.1).mp q] at hm; cases hm
      rw [key.2 (fun p => q ⟨p.1, p.2⟩)]
      exact ih (i := i + 1) h1.2 h2.2
def xs_hl : List Int := [12884627, 21285043, 86292723, 67155]
def xs_ho : List Int := [277892, 150000, 755083, 595572]
/-- which list of words a String holds -/
def xs_l (k : Nat) : List Int := match k with
  | 0 => xs_hl
  | 9 => md_lw
  | 10 => md_ow
  | 18 => xs_ho
  | _ => []
def xs_wd (k : Nat) : List (List Int) := match k with
  | 0 => [[108, 105, 102, 116, 115], [116, 105, 114, 101, 115], [98, 114, 105, 110, 103, 115], [98, 97, 114, 115]]
  | 9 => [[103, 105, 114, 108], [115, 116, 114, 111, 110, 103], [116, 105, 114, 101, 100], [121, 97, 114, 100], [104, 101, 97, 118, 121], [109, 117, 100], [100, 105, 112], [115, 116, 105, 108, 101, 115], [104, 111, 117, 114], [109, 111, 111, 100]]
  | 10 => [[104, 111, 117, 114], [100, 111, 110, 101], [108, 97, 116, 101, 115, 116], [102, 97, 116, 101], [112, 108, 97, 99, 101], [100, 105, 112], [116, 105, 114, 101, 100]]
  | 18 => [[104, 111, 108, 100], [100, 114, 111, 112], [119, 97, 108, 107], [114, 101, 115, 116]]
  | _ => []
theorem xs_wd_ok : ([0, 9, 10, 18].all (fun k => xs_ws (xs_wd k) && (xs_nd ((xs_wd k).map xs_h) && ((xs_wd k).map xs_h == xs_l k && xs_fl (xs_wd k) == xs_w k)))) = true := by decide +kernel
theorem xc_w_l {F : Nat → Int32} {T s k : Nat} (hs : s ≤ T) (hk : [0, 9, 10, 18].contains k = true) : xc_w F s (xt_E F T s) (xs_w k) 0 0 true = (md_at F T s (xs_l k) 0 0 : Int) - 1 := by
  have p := List.all_eq_true.mp xs_wd_ok k (List.contains_iff_mem.mp hk)
  rw [Bool.and_eq_true, Bool.and_eq_true, Bool.and_eq_true] at p
  rw [← eq_of_beq p.2.2.2, ← eq_of_beq p.2.2.1]
  exact xc_w_all (i := 0) hs p.1 p.2.1
theorem xs_dr {k j : Nat} (h : (j : Int) < ty_sn k) : (xs_w k).drop j = (xq_sb k j).toInt :: (xs_w k).drop (j + 1) := by
  have l := xs_wl (k := k)
  have hl : j < (xs_w k).length := by omega
  rw [List.drop_eq_getElem_cons hl, ← xs_wi hl, List.getD_eq_getElem?_getD, List.getElem?_eq_getElem hl]
  rfl
theorem xs_dr0 {k j : Nat} (h : ty_sn k ≤ (j : Int)) : (xs_w k).drop j = [] := by
  have l := xs_wl (k := k)
  exact List.drop_eq_nil_of_le (by omega)
theorem xc_eq {F : Nat → Int32} {s e : Nat} {l : List Int} {a a' : Nat} {i i' : Int} {n n' : Nat} {b b' : Bool} (ha : a = a') (hi : i = i') (hn : n = n') (hb : b = b') : xc_w F s e (l.drop a) i n b = xc_w F s e (l.drop a') i' n' b' := by
  subst ha hi hn hb
  rfl
theorem xc_n1 {F : Nat → Int32} {s e : Nat} {c i : Int} {r : List Int} {l : Nat} {b : Bool} (hc : c ≠ 32) (hb : b = true) (h1 : s + l < e) (h2 : (F (s + l)).toInt = c) : xc_w F s e (c :: r) i l b = xc_w F s e r i (l + 1) true := by
  show (if c = 32 then _ else xc_w F s e r i (l + 1) (b && (decide (s + l < e) && decide ((F (s + l)).toInt = c)))) = _
  rw [if_neg hc, hb, decide_eq_true h1, decide_eq_true h2]
  rfl
theorem xc_n0 {F : Nat → Int32} {s e : Nat} {c i : Int} {r : List Int} {l : Nat} {b : Bool} (hc : c ≠ 32) (h : b = true → s + l < e → (F (s + l)).toInt = c → False) : xc_w F s e (c :: r) i l b = xc_w F s e r i (l + 1) false := by
  show (if c = 32 then _ else xc_w F s e r i (l + 1) (b && (decide (s + l < e) && decide ((F (s + l)).toInt = c)))) = _
  rw [if_neg hc]
  have f : (b && (decide (s + l < e) && decide ((F (s + l)).toInt = c))) = false := by
    cases hf : (b && (decide (s + l < e) && decide ((F (s + l)).toInt = c))) with
    | false => rfl
    | true =>
      rw [Bool.and_eq_true, Bool.and_eq_true, decide_eq_true_eq, decide_eq_true_eq] at hf
      exact (h hf.1 hf.2.1 hf.2.2).elim
  rw [f]
theorem xc_b1 {F : Nat → Int32} {s e : Nat} {c i : Int} {r : List Int} {l : Nat} {b : Bool} (hc : c = 32) (hb : b = true) (hl : l = e - s) : xc_w F s e (c :: r) i l b = i := by
  show (if c = 32 then (if b = true ∧ l = e - s then i else _) else _) = _
  rw [if_pos hc, if_pos ⟨hb, hl⟩]
theorem xc_b0 {F : Nat → Int32} {s e : Nat} {c i : Int} {r : List Int} {l : Nat} {b : Bool} (hc : c = 32) (hn : ¬ (b = true ∧ l = e - s)) : xc_w F s e (c :: r) i l b = xc_w F s e r (i + 1) 0 true := by
  show (if c = 32 then (if b = true ∧ l = e - s then i else _) else _) = _
  rw [if_pos hc, if_neg hn]
end XFW
