/-! calls, and the law's own frame -/
theorem ev_noU_ok : ∀ (l : List ev_V), ev_noU l = true → ∀ w ∈ l, w.1 % 4 ≠ 3
  | [], _, w, hw => by cases hw
  | x :: t, h, w, hw => by
    have h : cond (Nat.beq (Nat.mod x.1 4) 3) false (ev_noU t) = true := h
    cases hb : Nat.beq (Nat.mod x.1 4) 3 with
    | true => rw [hb] at h; cases h
    | false =>
      rw [hb, cond_false] at h
      rcases List.mem_cons.mp hw with rfl | hm
      · intro g
        have : Nat.beq (Nat.mod w.1 4) 3 = true := ev_bt g
        rw [this] at hb
        cases hb
      · exact ev_noU_ok t h w hm
set_option maxRecDepth 100000 in
theorem ev_code_ok : pm_mtL.all (fun q => !q.2.2.2.2.2.2.isEmpty && ev_srt q.2.2.2.2.2.2) = true := by decide +kernel
set_option maxRecDepth 100000 in
theorem ev_cL_ok : (!pm_cL.isEmpty && ev_srt pm_cL) = true := by decide +kernel
theorem ev_ne {l : List pm_I} (h : (!l.isEmpty) = true) : l ≠ [] := by
  rintro rfl
  cases h
theorem ev_rn_ok {L : Nat} {xs : Nat → Int32} {E : ev_E} (hE : ev_sat E L xs) (d : Nat) : ev_SC xs (ev_rn E d) (pm_rn (pm_sX L xs) (0 + 2 ^ 17) d) ∧ ∀ b as h r, ev_rn E d b as h = some r → ∃ q, pm_mtL[b]? = some q := by
  induction d with
  | zero => exact ⟨(fun mid as h ph r hc => by cases hc), (fun b as h r hc => by cases hc)⟩
  | succ d ih =>
    have key : ∀ mid as h r, ev_rn E (d + 1) mid as h = some r → ∃ q, pm_mtL[mid]? = some q ∧ as.length = q.2.2.2.2.2.1 ∧ (ev_lay as).length ≤ q.2.2.1 ∧ (∀ w ∈ as, w.1 % 4 ≠ 3) ∧ ev_it (ev_step q.2.2.2.2.1 (decide (q.1.name = "<init>")) q.2.2.2.1 q.2.2.1 (ev_bld 10 q.2.2.2.2.2.2) (ev_rn E d) E) 17 (0, ev_lay as ++ List.replicate (q.2.2.1 - (ev_lay as).length) (3, 0), [], h) = some (.inr r) := by
      intro mid as h r hc
      replace hc : (match pm_mtL[mid]? with
        | none => none
        | some (y, _, nL, ret, o, na, code) => cond (Nat.beq as.length na && Nat.ble (ev_lay as).length nL && ev_noU as) (ev_padK nL (ev_lay as) (fun ls => match ev_it (ev_step o (decide (y.name = "<init>")) ret nL (ev_bld 10 code) (ev_rn E d) E) 17 (0, ls, [], h) with
          | some (.inr r) => some r
          | _ => none)) none) = some r := hc
      split at hc
      · cases hc
      · next y bb nL ret o na code hq =>
        cases hg : (Nat.beq as.length na && Nat.ble (ev_lay as).length nL && ev_noU as) with
        | false => rw [hg] at hc; cases hc
        | true =>
          rw [hg, cond_true] at hc
          rw [Bool.and_eq_true, Bool.and_eq_true] at hg
          rw [ev_padK_eq _ _ _ (ev_le hg.1.2)] at hc
          refine ⟨_, hq, ev_be hg.1.1, ev_le hg.1.2, ev_noU_ok as hg.2, ?_⟩
          dsimp only at hc ⊢
          split at hc
          · next r0 hr => cases hc; exact hr
          · cases hc
    refine ⟨fun mid as h ph r hc hH => ?_, fun b as h r hc => ?_⟩
    · obtain ⟨q, hq, h1, h2, h3, h4⟩ := key _ _ _ _ hc
      have hck := List.all_eq_true.mp ev_code_ok q (List.mem_of_getElem? hq)
      rw [Bool.and_eq_true] at hck
      have hini : pm_ini (as.map (ev_dV xs)) q.2.2.1 = (ev_lay as ++ List.replicate (q.2.2.1 - (ev_lay as).length) (3, 0)).map (ev_dL xs) := by
        unfold pm_ini
        rw [ev_lay_map as h3, List.length_map, List.map_append, List.map_replicate]
        rfl
      have hR : ev_RS xs q.2.2.1 (0, ev_lay as ++ List.replicate (q.2.2.1 - (ev_lay as).length) (3, 0), [], h) (0, pm_ini (as.map (ev_dV xs)) q.2.2.1, [], ph) := ⟨rfl, hini, rfl, by simp; omega, hH⟩
      obtain ⟨pr, hp1, hp2⟩ := (ev_it_ok (ev_ne hck.1) hck.2 hE ih.1 ih.2 17 hR).2 r h4
      refine ⟨pr, ?_, hp1⟩
      show (match pm_mtL[mid]? with
        | none => none
        | some q => bif decide ((as.map (ev_dV xs)).length = q.2.2.2.2.2.1) && decide ((pm_lay (as.map (ev_dV xs))).length ≤ q.2.2.1) && (as.map (ev_dV xs)).all (fun v => pm_cat1 v || pm_two (some v)) then
          pm_ey (pm_sX L xs) (pm_rn (pm_sX L xs) (0 + 2 ^ 17) d) q.2.2.2.2.1 (decide (q.1.name = "<init>")) q.2.2.2.1 q.2.2.2.2.2.2 (0 + 2 ^ 17) (0, pm_ini (as.map (ev_dV xs)) q.2.2.1, [], ph) else none) = _
      rw [hq]
      show (bif decide ((as.map (ev_dV xs)).length = q.2.2.2.2.2.1) && decide ((pm_lay (as.map (ev_dV xs))).length ≤ q.2.2.1) && (as.map (ev_dV xs)).all (fun v => pm_cat1 v || pm_two (some v)) then
          pm_ey (pm_sX L xs) (pm_rn (pm_sX L xs) (0 + 2 ^ 17) d) q.2.2.2.2.1 (decide (q.1.name = "<init>")) q.2.2.2.1 q.2.2.2.2.2.2 (0 + 2 ^ 17) (0, pm_ini (as.map (ev_dV xs)) q.2.2.1, [], ph) else none) = _
      rw [decide_eq_true (by rw [List.length_map]; exact h1), decide_eq_true (by rw [ev_lay_map as h3, List.length_map]; exact h2), ev_all_ok as h3]
      exact hp2 0
    · obtain ⟨q, hq, -⟩ := key _ _ _ _ hc
      exact ⟨q, hq⟩
/-- the law's frame -/
theorem ev_law_ok {L : Nat} {xs : Nat → Int32} {E : ev_E} (hE : ev_sat E L xs) (d k : Nat) {s : ev_S} {p : pm_S} (hR : ev_RS xs 4 s p) :
    (∀ s', ev_law E d k s = some (.inl s') → ∃ p', ev_RS xs 4 s' p' ∧ ∀ m, pm_ey (pm_sX L xs) (pm_rn (pm_sX L xs) (0 + 2 ^ 17) d) 12 false (some .boolean) pm_cL (m + 2 ^ k) p = pm_ey (pm_sX L xs) (pm_rn (pm_sX L xs) (0 + 2 ^ 17) d) 12 false (some .boolean) pm_cL m p') ∧
    (∀ r, ev_law E d k s = some (.inr r) → ∃ pr, ev_RR xs r pr ∧ ∀ m, pm_ey (pm_sX L xs) (pm_rn (pm_sX L xs) (0 + 2 ^ 17) d) 12 false (some .boolean) pm_cL (m + 2 ^ k) p = some pr) := by
  have hck := ev_cL_ok
  rw [Bool.and_eq_true] at hck
  exact ev_it_ok (ev_ne hck.1) hck.2 hE (ev_rn_ok hE d).1 (ev_rn_ok hE d).2 k hR
def ev_fin (x : ev_O) : Bool := match x with
  | some (.inr (h, some (t, p))) => Nat.beq t 0 && Nat.beq p 1 && Nat.ble h.2.1 7302250
  | _ => false
theorem ev_s0_ok (xs : Nat → Int32) : ev_RS xs 4 ev_s0 (0, [some (.retAddr 200), none, none, none], [], pm_h0) := by
  refine ⟨rfl, ?_, rfl, rfl, rfl, rfl, ⟨rfl, ?_⟩, Nat.zero_le _, fun a ha => absurd ha (Nat.not_lt_zero a)⟩
  · show [some (Value.retAddr 200), none, none, none] = [ev_dL xs (6, 200), ev_dL xs (3, 0), ev_dL xs (3, 0), ev_dL xs (3, 0)]
    rw [ev_dLs (w := (6, 200)) (by decide), ev_dV6]
    rfl
  · intro r hr
    have := List.eq_of_mem_replicate hr
    rw [this]
    rfl
/-- the law ends with 1, out of the evaluator's two runs -/
theorem ev_ends {L : Nat} {xs : Nat → Int32} {E : ev_E} {s1 : ev_S} (h0 : ev_law (0, 0, []) 20 3 ev_s0 = some (.inl s1)) (hE : ev_sat E L xs) (h1 : ev_fin (ev_law E 20 7 s1) = true) :
    ∃ hf : pm_H, hf.1 ≤ 600000 ∧ hf.2.1 ≤ 7302250 ∧ pm_ey (pm_sX L xs) (pm_rn (pm_sX L xs) (0 + 2 ^ 17) 20) 12 false (some .boolean) pm_cL (0 + 2 ^ 17) (0, [some (.retAddr 200), none, none, none], [], pm_h0) = some (hf, some (.int 1)) := by
  have hE0 : ev_sat (0, 0, []) L xs := ⟨Or.inl rfl, (fun h => by cases h), (fun i q h => by cases h)⟩
  obtain ⟨p1, r1, f1⟩ := (ev_law_ok hE0 20 3 (ev_s0_ok xs)).1 s1 h0
  unfold ev_fin at h1
  split at h1
  · next h t p hr =>
    rw [Bool.and_eq_true, Bool.and_eq_true] at h1
    obtain ⟨⟨g1, g2⟩, g3⟩ := h1
    obtain rfl := ev_be g1
    obtain rfl := ev_be g2
    obtain ⟨pr, r2, f2⟩ := (ev_law_ok hE 20 7 r1).2 _ hr
    obtain ⟨ph, pv⟩ := pr
    obtain ⟨⟨e1, e2, e3, e4, e5⟩, e6⟩ := r2
    have e1 : ph.1 = h.1 := e1
    have e2 : ph.2.1 = h.2.1 := e2
    have e4 : h.1 ≤ 160 := e4
    have e6 : pv = some (ev_dV xs (0, 1)) := e6
    subst e6
    refine ⟨ph, by omega, by have := ev_le g3; omega, ?_⟩
    have := f1 (130936 + 2 ^ 7)
    rw [f2] at this
    exact this
  · cases h1
/-! trees of cases: a branch's number is a cell and a bound -/
noncomputable def ev_lo (bds : List (Nat × Nat)) (k : Nat) : List (Nat × Nat) := bds.set (k / 4294967296) ((bds.getD (k / 4294967296) (0, 4294967295)).1, k % 4294967296 - 1)
noncomputable def ev_hi (bds : List (Nat × Nat)) (k : Nat) : List (Nat × Nat) := bds.set (k / 4294967296) (k % 4294967296, (bds.getD (k / 4294967296) (0, 4294967295)).2)
/-- in normal form -/
noncomputable def ev_bK {β : Type} (l : List (Nat × Nat)) : (List (Nat × Nat) → β) → β := List.rec (motive := fun _ => (List (Nat × Nat) → β) → β) (fun K => K []) (fun q _ ih K => ev_fK q.1 (fun a => ev_fK q.2 (fun b => ih (fun t => K ((a, b) :: t))))) l
theorem ev_bK_eq {β : Type} (l : List (Nat × Nat)) (K : List (Nat × Nat) → β) : ev_bK l K = K l := by
  induction l generalizing K with
  | nil => rfl
  | cons q t ih =>
    show ev_fK q.1 (fun a => ev_fK q.2 (fun b => ev_bK t (fun t => K ((a, b) :: t)))) = _
    rw [ev_fK_eq, ev_fK_eq, ih]
noncomputable def ev_chk (s1 : ev_S) (c : Nat) (T : Lean.RArray Unit) : List (Nat × Nat) → Bool := Lean.RArray.rec (motive := fun _ => List (Nat × Nat) → Bool) (fun _ bds => ev_bK bds (fun bds => ev_fin (ev_law (7, c, bds) 20 7 s1))) (fun k _ _ l r bds => cond (Nat.ble 1 (k % 4294967296)) (cond (l (ev_lo bds k)) (r (ev_hi bds k)) false) false) T
theorem ev_sat_lo {L c : Nat} {xs : Nat → Int32} {bds : List (Nat × Nat)} {k : Nat} (h : ev_sat (7, c, bds) L xs) (hk : 1 ≤ k % 4294967296) (hlt : (xs (k / 4294967296)).toInt < ((k % 4294967296 : Nat) : Int) - 2147483648) : ev_sat (7, c, ev_lo bds k) L xs := by
  refine ⟨h.1, h.2.1, fun i q hq => ?_⟩
  have hq : (ev_lo bds k)[i]? = some q := hq
  unfold ev_lo at hq
  rw [List.getElem?_set] at hq
  by_cases hi : k / 4294967296 = i
  · rw [if_pos hi] at hq
    by_cases hl : k / 4294967296 < bds.length
    · rw [if_pos hl] at hq
      cases hq
      have hb : bds[i]? = some (bds.getD (k / 4294967296) (0, 4294967295)) := by
        rw [hi] at hl ⊢
        rw [List.getD_eq_getElem?_getD, List.getElem?_eq_getElem hl]
        rfl
      obtain ⟨g1, g2, g3⟩ := h.2.2 i _ hb
      rw [hi] at hlt
      refine ⟨g1, g2, ?_⟩
      show (xs i).toInt ≤ ((k % 4294967296 - 1 : Nat) : Int) - 2147483648
      omega
    · rw [if_neg hl] at hq; cases hq
  · rw [if_neg hi] at hq
    exact h.2.2 i q hq
theorem ev_sat_hi {L c : Nat} {xs : Nat → Int32} {bds : List (Nat × Nat)} {k : Nat} (h : ev_sat (7, c, bds) L xs) (hlt : ¬ (xs (k / 4294967296)).toInt < ((k % 4294967296 : Nat) : Int) - 2147483648) : ev_sat (7, c, ev_hi bds k) L xs := by
  refine ⟨h.1, h.2.1, fun i q hq => ?_⟩
  have hq : (ev_hi bds k)[i]? = some q := hq
  unfold ev_hi at hq
  rw [List.getElem?_set] at hq
  by_cases hi : k / 4294967296 = i
  · rw [if_pos hi] at hq
    by_cases hl : k / 4294967296 < bds.length
    · rw [if_pos hl] at hq
      cases hq
      have hb : bds[i]? = some (bds.getD (k / 4294967296) (0, 4294967295)) := by
        rw [hi] at hl ⊢
        rw [List.getD_eq_getElem?_getD, List.getElem?_eq_getElem hl]
        rfl
      obtain ⟨g1, g2, g3⟩ := h.2.2 i _ hb
      rw [hi] at hlt
      refine ⟨g1, ?_, g3⟩
      show ((k % 4294967296 : Nat) : Int) - 2147483648 ≤ (xs i).toInt
      omega
    · rw [if_neg hl] at hq; cases hq
  · rw [if_neg hi] at hq
    exact h.2.2 i q hq
theorem ev_chk_ok {L c : Nat} {xs : Nat → Int32} {s1 : ev_S} (T : Lean.RArray Unit) : ∀ bds, ev_chk s1 c T bds = true → ev_sat (7, c, bds) L xs → ∃ E, ev_sat E L xs ∧ ev_fin (ev_law E 20 7 s1) = true := by
  induction T with
  | leaf u =>
    intro bds h hE
    have h : ev_bK bds (fun bds => ev_fin (ev_law (7, c, bds) 20 7 s1)) = true := h
    rw [ev_bK_eq] at h
    exact ⟨_, hE, h⟩
  | branch k l r ihl ihr =>
    intro bds h hE
    have h : cond (Nat.ble 1 (k % 4294967296)) (cond (ev_chk s1 c l (ev_lo bds k)) (ev_chk s1 c r (ev_hi bds k)) false) false = true := h
    cases h1 : Nat.ble 1 (k % 4294967296) with
    | false => rw [h1] at h; cases h
    | true =>
      rw [h1, cond_true] at h
      cases h2 : ev_chk s1 c l (ev_lo bds k) with
      | false => rw [h2] at h; cases h
      | true =>
        rw [h2, cond_true] at h
        by_cases hlt : (xs (k / 4294967296)).toInt < ((k % 4294967296 : Nat) : Int) - 2147483648
        · exact ihl _ h2 (ev_sat_lo hE (ev_le h1) hlt)
        · exact ihr _ h (ev_sat_hi hE hlt)
theorem ev_chk_br {c k : Nat} {s1 : ev_S} {l r : Lean.RArray Unit} {bds : List (Nat × Nat)} (h1 : Nat.ble 1 (k % 4294967296) = true) (h2 : ev_chk s1 c l (ev_lo bds k) = true) (h3 : ev_chk s1 c r (ev_hi bds k) = true) : ev_chk s1 c (.branch k l r) bds = true := by
  show cond (Nat.ble 1 (k % 4294967296)) (cond (ev_chk s1 c l (ev_lo bds k)) (ev_chk s1 c r (ev_hi bds k)) false) false = true
  rw [h1, h2, h3]
  rfl
def ev_bd0 : List (Nat × Nat) := [(0, 4294967295), (0, 4294967295), (0, 4294967295), (0, 4294967295), (0, 4294967295), (0, 4294967295)]
theorem ev_sat0 {c : Nat} {xs : Nat → Int32} (hc : xs 0 &&& 63 = Int32.ofNat c) : ev_sat (7, c, ev_bd0) 6 xs := by
  refine ⟨Or.inr ⟨rfl, by decide⟩, fun _ => hc, fun i q hq => ?_⟩
  have hq : ev_bd0[i]? = some q := hq
  have h1 := Int32.le_toInt (xs i)
  have h2 := Int32.toInt_lt (xs i)
  have hi : i < 6 := (List.getElem?_eq_some_iff.mp hq).1
  have hqq : q = (0, 4294967295) := by
    match i, hi, hq with
    | 0, _, hq => cases hq; rfl
    | 1, _, hq => cases hq; rfl
    | 2, _, hq => cases hq; rfl
    | 3, _, hq => cases hq; rfl
    | 4, _, hq => cases hq; rfl
    | 5, _, hq => cases hq; rfl
    | n + 6, h, _ => exact absurd h (by omega)
  subst hqq
  refine ⟨hi, ?_, ?_⟩
  · show (0 : Int) - 2147483648 ≤ _
    omega
  · show _ ≤ (4294967295 : Int) - 2147483648
    omega
theorem ev_c64 (x : Int32) : ∃ c, c < 64 ∧ x &&& 63 = Int32.ofNat c := by
  refine ⟨Nat.land (ev_ci x) 63, ?_, ?_⟩
  · have : Nat.land (ev_ci x) 63 ≤ 63 := Nat.and_le_right
    omega
  · rw [ev_land_eq, ev_ci_eq]
    rfl
