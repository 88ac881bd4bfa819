/-! what the evaluator does, the pure machine does: arrays, calls, returns; the run -/
section EVS3
variable {L : Nat} {xs : Nat → Int32} {E : ev_E} {cE : ev_Ca} {cP : Nat → List Value → pm_H → Option pm_R} {o : Nat} {ini : Bool} {ret : Option FieldType} {nL pc len a b : Nat} {v : Value}
theorem ev_sX_str {x : Nat} (h1 : 100 ≤ x) (h2 : x < 123) : pm_sX L xs x = some (5, (pm_strB.getD (x - 100) []).length, fun j => (pm_strB.getD (x - 100) []).getD j 0) := by
  unfold pm_sX
  have e1 : (x == 200) = false := by rw [beq_eq_false_iff_ne]; omega
  have e2 : (x == 201) = false := by rw [beq_eq_false_iff_ne]; omega
  rw [e1, e2, decide_eq_true h1, decide_eq_true h2]
  rfl
theorem ev_strl : (List.range 23).all (fun i => decide ((pm_strB.getD i []).length ≤ 16777216)) = true := by decide +kernel
theorem ev_t_arraylength (hE : ev_sat E L xs) : ev_SI L xs E cE cP o ini ret nL pc .arraylength len a b v (ev_al (Nat.add pc 1)) := by
  intro ls st h ph s' hl hH hs
  have key : ∀ (w : Value) (r : List Value) (t n : Nat) (z : _), pm_arr (pm_sX L xs) ph w = some (t, n, z) → (decide (t < 5) || pm_isS w) = true → pm_step (pm_sX L xs) cP o ini ret pc (ls.map (ev_dL xs)) (w :: r) ph .arraylength len a b v = pm_go (pc + 1) (ls.map (ev_dL xs)) (.int (Int32.ofNat n) :: r) ph := by
    intro w r t n z h1 h2
    show (match pm_arr (pm_sX L xs) ph w with
      | some (t, n, _) => bif decide (t < 5) || pm_isS w then pm_go (pc + 1) (ls.map (ev_dL xs)) (.int (Int32.ofNat n) :: r) ph else none
      | none => none) = _
    rw [h1]
    show (bif decide (t < 5) || pm_isS w then _ else none) = _
    rw [h2]
    rfl
  unfold ev_al at hs
  split at hs
  · next tx x r =>
    cases h0 : Nat.beq tx 2 with
    | true =>
      rw [h0, cond_true] at hs
      obtain rfl := ev_be h0
      obtain ⟨g1, h2⟩ := ev_c hs
      split at h2
      · next t k N ov hc =>
        obtain ⟨g2, h3⟩ := ev_c h2
        obtain rfl := ev_go_inv h3
        obtain ⟨z, z1, z2⟩ := ev_arr (X := pm_sX L xs) hH (ev_lt g1) hc
        have ht : t < 5 := by
          obtain f | f | f | f | f := z
          · rcases z2.1 with h | h <;> omega
          · have := z2.1; omega
          · exact z2.elim
          · exact z2.elim
          · rcases z2.1 with h | h <;> omega
        exact ⟨_, key (.ref x) (r.map (ev_dV xs)) t k z z1 (by rw [decide_eq_true ht]; rfl), rfl, rfl, rfl, hl, hH⟩
      · cases h2
    | false =>
      rw [h0, cond_false] at hs
      obtain ⟨g0, h1⟩ := ev_c hs
      obtain rfl := ev_be g0
      rw [List.map_cons, ev_dV6]
      cases h2 : Nat.beq x 200 with
      | true =>
        rw [h2, cond_true, ev_fK_eq] at h1
        obtain rfl := ev_be h2
        rcases hE.1 with e0 | ⟨e0, eL⟩
        · rw [e0] at h1; cases h1
        · rw [e0] at h1
          replace h1 : cond (Nat.ble L 6) (ev_go (Nat.add pc 1) ls ((0, L) :: r) h) none = some (.inl s') := h1
          obtain ⟨g1, h3⟩ := ev_c h1
          obtain rfl := ev_go_inv h3
          exact ⟨_, key (.retAddr 200) (r.map (ev_dV xs)) 0 L _ rfl rfl, rfl, rfl, rfl, hl, hH⟩
      | false =>
        rw [h2, cond_false] at h1
        cases h3 : Nat.beq x 201 with
        | true =>
          rw [h3, cond_true] at h1
          obtain rfl := ev_be h3
          obtain rfl := ev_go_inv h1
          exact ⟨_, key (.retAddr 201) (r.map (ev_dV xs)) 0 3 _ rfl rfl, rfl, rfl, rfl, hl, hH⟩
        | false =>
          rw [h3, cond_false] at h1
          obtain ⟨g1, h4⟩ := ev_c h1
          obtain ⟨g2, h5⟩ := ev_c h4
          rw [ev_fK_eq] at h5
          obtain rfl := ev_go_inv h5
          have hx := ev_sX_str (L := L) (xs := xs) (ev_le g1) (ev_lt g2)
          refine ⟨_, key (.retAddr x) (r.map (ev_dV xs)) 5 (pm_strB.getD (x - 100) []).length (.inl (fun j => (pm_strB.getD (x - 100) []).getD j 0)) ?_ rfl, rfl, rfl, rfl, hl, hH⟩
          · show (match pm_sX L xs x with
              | some x => some (x.1, x.2.1, Sum.inl x.2.2)
              | none => none) = _
            rw [hx]
  · cases hs
theorem ev_dVint {w : ev_V} (h : w.1 = 0 ∨ w.1 = 4) : ev_dV xs w = .int (ev_int xs w) := by
  obtain ⟨t, p⟩ := w
  rcases h with h | h
  · have h : t = 0 := h
    subst h; rfl
  · have h : t = 4 := h
    subst h
    rw [ev_dV4]
    rfl
theorem ev_rd_tag (ov : List (Nat × Nat)) (N j : Nat) : (ev_rd ov N j).1 = 0 ∨ (ev_rd ov N j).1 = 4 := by
  induction ov with
  | nil => exact Or.inl rfl
  | cons q t ih =>
    show (if q.1 = j then (4, q.2) else ev_rd t N j).1 = 0 ∨ (if q.1 = j then (4, q.2) else ev_rd t N j).1 = 4
    by_cases h : q.1 = j
    · rw [if_pos h]; exact Or.inr rfl
    · rw [if_neg h]; exact ih
theorem ev_RA_int {t n N : Nat} {ov : List (Nat × Nat)} {z : (Nat → Int32) ⊕ (Nat → Int64) ⊕ (Nat → UInt32) ⊕ (Nat → UInt64) ⊕ (Nat → Option Nat)} (ht : t = 0 ∨ t = 2) (h : ev_RA xs t n N ov z) : ∃ f, z = .inl f ∧ ∀ j, j < n → f j = ev_int xs (ev_rd ov N j) := by
  obtain f | f | f | f | f := z
  · exact ⟨f, rfl, h.2⟩
  · have := h.1; omega
  · exact h.elim
  · exact h.elim
  · rcases h.1 with g | g <;> omega
theorem ev_RA_long {n N : Nat} {ov : List (Nat × Nat)} {z : (Nat → Int32) ⊕ (Nat → Int64) ⊕ (Nat → UInt32) ⊕ (Nat → UInt64) ⊕ (Nat → Option Nat)} (h : ev_RA xs 1 n N ov z) : ∃ f, z = .inr (.inl f) ∧ ∀ j, j < n → f j = Int64.ofNat (ev_ln8 N j) := by
  obtain f | f | f | f | f := z
  · rcases h.1 with g | g <;> omega
  · exact ⟨f, rfl, h.2⟩
  · exact h.elim
  · exact h.elim
  · rcases h.1 with g | g <;> omega
theorem ev_RA_ref {t n N : Nat} {ov : List (Nat × Nat)} {z : (Nat → Int32) ⊕ (Nat → Int64) ⊕ (Nat → UInt32) ⊕ (Nat → UInt64) ⊕ (Nat → Option Nat)} (ht : t = 3 ∨ t = 4) (h : ev_RA xs t n N ov z) : ∃ f, z = .inr (.inr (.inr (.inr f))) ∧ ∀ j, j < n → f j = ev_ref (ev_ln N j) := by
  obtain f | f | f | f | f := z
  · rcases h.1 with g | g <;> omega
  · have := h.1; omega
  · exact h.elim
  · exact h.elim
  · exact ⟨f, rfl, h.2⟩
theorem ev_t_iaload (hE : ev_sat E L xs) : ev_SI L xs E cE cP o ini ret nL pc .iaload len a b v (ev_ial (Nat.add pc 1)) := by
  intro ls st h ph s' hl hH hs
  have key : ∀ (w : Value) (j : Nat) (r : List Value) (n : Nat) (f : Nat → Int32), pm_arr (pm_sX L xs) ph w = some (0, n, .inl f) → n ≤ 16777216 → j < n → pm_step (pm_sX L xs) cP o ini ret pc (ls.map (ev_dL xs)) (.int (Int32.ofNat j) :: w :: r) ph .iaload len a b v = pm_go (pc + 1) (ls.map (ev_dL xs)) (.int (f j) :: r) ph := by
    intro w j r n f h1 h2 h3
    show (match pm_arr (pm_sX L xs) ph w with
      | some (t, n, .inl f) => bif t == 0 && pm_in (Int32.ofNat j) n then pm_go (pc + 1) (ls.map (ev_dL xs)) (.int (f (Int32.ofNat j).toNatClampNeg) :: r) ph else none
      | _ => none) = _
    rw [h1]
    show (bif 0 == 0 && pm_in (Int32.ofNat j) n then _ else none) = _
    rw [ev_in h2 h3, ev_clamp h2 h3]
    rfl
  unfold ev_ial at hs
  split at hs
  · next tj j tx x r =>
    obtain ⟨gj, h1⟩ := ev_c hs
    obtain rfl := ev_be gj
    cases h0 : Nat.beq tx 2 with
    | true =>
      rw [h0, cond_true] at h1
      obtain rfl := ev_be h0
      obtain ⟨g1, h2⟩ := ev_c h1
      split at h2
      · next t k N ov hc =>
        obtain ⟨g2, h3⟩ := ev_c h2
        obtain ⟨g3, h4⟩ := ev_c h3
        obtain ⟨g4, h5⟩ := ev_c h4
        rw [ev_rdK_eq] at h5
        obtain rfl := ev_be g2
        obtain rfl := ev_go_inv h5
        obtain ⟨z, z1, z2⟩ := ev_arr (X := pm_sX L xs) hH (ev_lt g1) hc
        obtain ⟨f, rfl, hf⟩ := ev_RA_int (Or.inl rfl) z2
        refine ⟨_, key (.ref x) j (r.map (ev_dV xs)) k f z1 (ev_le g3) (ev_lt g4), rfl, rfl, ?_, hl, hH⟩
        show Value.int (f j) :: _ = ev_dV xs (ev_rd ov N j) :: r.map (ev_dV xs)
        rw [ev_dVint (ev_rd_tag ov N j), hf j (ev_lt g4)]
      · cases h2
    | false =>
      rw [h0, cond_false] at h1
      obtain ⟨g0, h2⟩ := ev_c h1
      obtain rfl := ev_be g0
      rw [List.map_cons, List.map_cons, ev_dV6]
      cases h3 : Nat.beq x 200 with
      | true =>
        rw [h3, cond_true] at h2
        obtain rfl := ev_be h3
        obtain ⟨g1, h4⟩ := ev_c h2
        obtain ⟨g2, h5⟩ := ev_c h4
        have gj1 : j + 1 < E.1 := ev_lt g1
        have hjL : j < L ∧ L ≤ 6 := by
          rcases hE.1 with e0 | ⟨e0, eL⟩
          · omega
          · exact ⟨by omega, eL⟩
        have hj8 : j < 8 := by omega
        have hdj : ev_dI xs j = xs j := by unfold ev_dI; rw [if_pos hj8]
        have e := key (.retAddr 200) j (r.map (ev_dV xs)) L xs rfl (by omega) hjL.1
        rw [ev_bnd_eq] at h5
        obtain ⟨A, a1, a2, a3⟩ := ev_bd hE j
        rw [hdj] at a1
        cases hq : Nat.beq (ev_bq E j).1 (ev_bq E j).2 with
        | true =>
          rw [hq, cond_true, ev_fK_eq] at h5
          obtain rfl := ev_go_inv h5
          have hq2 := ev_be hq
          have hlt := Int32.toInt_lt (xs j)
          have hA : A = (ev_bq E j).1 := by omega
          have hA2 : A < 4294967296 := by omega
          have hxj : xs j = Int32.ofNat (ev_ofs (ev_bq E j).1) := by
            apply Int32.toInt_inj.mp
            rw [a1, ev_toI, ← hA]
            have e3 : ev_ofs (ev_ofs A) = A := by
              unfold ev_ofs
              show (((A + 2147483648) % 4294967296) + 2147483648) % 4294967296 = A
              omega
            rw [e3]
          refine ⟨_, e, rfl, rfl, ?_, hl, hH⟩
          show Value.int (xs j) :: _ = ev_dV xs (0, ev_ofs (ev_bq E j).1) :: r.map (ev_dV xs)
          rw [ev_dV0, ← hxj]
        | false =>
          rw [hq, cond_false] at h5
          obtain rfl := ev_go_inv h5
          refine ⟨_, e, rfl, rfl, ?_, hl, hH⟩
          show Value.int (xs j) :: _ = ev_dV xs (4, j) :: r.map (ev_dV xs)
          rw [ev_dV4, hdj]
      | false =>
        rw [h3, cond_false] at h2
        obtain ⟨g1, h4⟩ := ev_c h2
        obtain ⟨g2, h5⟩ := ev_c h4
        rw [ev_fK_eq, ev_nth_eq] at h5
        obtain rfl := ev_be g1
        obtain rfl := ev_go_inv h5
        have hj := ev_lt g2
        refine ⟨_, key (.retAddr 201) j (r.map (ev_dV xs)) 3 (fun j => [999, 10, 9].getD j 0) rfl (by decide) hj, rfl, rfl, ?_, hl, hH⟩
        show Value.int ([999, 10, 9].getD j 0) :: _ = ev_dV xs (0, [999, 10, 9].getD j 0) :: r.map (ev_dV xs)
        rw [ev_dV0]
        match j, hj with
        | 0, _ => rfl
        | 1, _ => rfl
        | 2, _ => rfl
        | n + 3, g => exact absurd g (by omega)
  · cases hs
theorem ev_t_baload : ev_SI L xs E cE cP o ini ret nL pc .baload len a b v (ev_bal (Nat.add pc 1)) := by
  intro ls st h ph s' hl hH hs
  have key : ∀ (w : Value) (j : Nat) (r : List Value) (t n : Nat) (f : Nat → Int32), pm_arr (pm_sX L xs) ph w = some (t, n, .inl f) → (t == 2 || (t == 5 && pm_isS w)) = true → n ≤ 16777216 → j < n → pm_step (pm_sX L xs) cP o ini ret pc (ls.map (ev_dL xs)) (.int (Int32.ofNat j) :: w :: r) ph .baload len a b v = pm_go (pc + 1) (ls.map (ev_dL xs)) (.int (f j) :: r) ph := by
    intro w j r t n f h1 h0 h2 h3
    show (match pm_arr (pm_sX L xs) ph w with
      | some (t, n, .inl f) => bif (t == 2 || (t == 5 && pm_isS w)) && pm_in (Int32.ofNat j) n then pm_go (pc + 1) (ls.map (ev_dL xs)) (.int (f (Int32.ofNat j).toNatClampNeg) :: r) ph else none
      | _ => none) = _
    rw [h1]
    show (bif (t == 2 || (t == 5 && pm_isS w)) && pm_in (Int32.ofNat j) n then _ else none) = _
    rw [h0, ev_in h2 h3, ev_clamp h2 h3]
    rfl
  unfold ev_bal at hs
  split at hs
  · next tj j tx x r =>
    obtain ⟨gj, h1⟩ := ev_c hs
    obtain rfl := ev_be gj
    cases h0 : Nat.beq tx 2 with
    | true =>
      rw [h0, cond_true] at h1
      obtain rfl := ev_be h0
      obtain ⟨g1, h2⟩ := ev_c h1
      split at h2
      · next t k N ov hc =>
        obtain ⟨g2, h3⟩ := ev_c h2
        obtain ⟨g3, h4⟩ := ev_c h3
        obtain ⟨g4, h5⟩ := ev_c h4
        rw [ev_rdK_eq] at h5
        obtain rfl := ev_be g2
        obtain rfl := ev_go_inv h5
        obtain ⟨z, z1, z2⟩ := ev_arr (X := pm_sX L xs) hH (ev_lt g1) hc
        obtain ⟨f, rfl, hf⟩ := ev_RA_int (Or.inr rfl) z2
        refine ⟨_, key (.ref x) j (r.map (ev_dV xs)) 2 k f z1 rfl (ev_le g3) (ev_lt g4), rfl, rfl, ?_, hl, hH⟩
        show Value.int (f j) :: _ = ev_dV xs (ev_rd ov N j) :: r.map (ev_dV xs)
        rw [ev_dVint (ev_rd_tag ov N j), hf j (ev_lt g4)]
      · cases h2
    | false =>
      rw [h0, cond_false] at h1
      obtain ⟨g0, h2⟩ := ev_c h1
      obtain rfl := ev_be g0
      obtain ⟨g1, h3⟩ := ev_c h2
      obtain ⟨g2, h4⟩ := ev_c h3
      obtain ⟨g3, h5⟩ := ev_c h4
      obtain ⟨g4, h6⟩ := ev_c h5
      rw [ev_fK_eq] at h6
      obtain rfl := ev_go_inv h6
      rw [List.map_cons, List.map_cons, ev_dV6]
      have hx := ev_sX_str (L := L) (xs := xs) (ev_le g1) (ev_lt g2)
      have hlen := of_decide_eq_true (List.all_eq_true.mp ev_strl (x - 100) (List.mem_range.mpr (by have := ev_le g1; have := ev_lt g2; omega)))
      have hj : j < (pm_strB.getD (x - 100) []).length := ev_lt g3
      refine ⟨_, key (.retAddr x) j (r.map (ev_dV xs)) 5 (pm_strB.getD (x - 100) []).length (fun j => (pm_strB.getD (x - 100) []).getD j 0) ?_ rfl hlen hj, rfl, rfl, ?_, hl, hH⟩
      · show (match pm_sX L xs x with
          | some x => some (x.1, x.2.1, Sum.inl x.2.2)
          | none => none) = _
        rw [hx]
      · show Value.int ((pm_strB.getD (x - 100) []).getD j 0) :: _ = ev_dV xs (0, ev_ci ((pm_strB.getD (x - 100) []).getD j 0)) :: r.map (ev_dV xs)
        rw [ev_dV0, ev_ci_eq]
  · cases hs
theorem ev_t_laload : ev_SI L xs E cE cP o ini ret nL pc .laload len a b v (ev_lal (Nat.add pc 1)) := by
  intro ls st h ph s' hl hH hs
  unfold ev_lal at hs
  split at hs
  · next tj j tx x r =>
    obtain ⟨gj, h1⟩ := ev_c hs
    obtain ⟨h0, h1b⟩ := ev_c h1
    obtain rfl := ev_be gj
    obtain rfl := ev_be h0
    obtain ⟨g1, h2⟩ := ev_c h1b
    split at h2
    · next t k N ov hc =>
      obtain ⟨g2, h3⟩ := ev_c h2
      obtain ⟨g3, h4⟩ := ev_c h3
      obtain ⟨g4, h5⟩ := ev_c h4
      rw [ev_fK_eq] at h5
      obtain rfl := ev_be g2
      obtain rfl := ev_go_inv h5
      obtain ⟨z, z1, z2⟩ := ev_arr (X := pm_sX L xs) hH (ev_lt g1) hc
      obtain ⟨f, rfl, hf⟩ := ev_RA_long z2
      refine ⟨(pc + 1, ls.map (ev_dL xs), .long (f j) :: r.map (ev_dV xs), ph), ?_, rfl, rfl, ?_, hl, hH⟩
      · show (match pm_arr (pm_sX L xs) ph (.ref x) with
          | some (t, n, .inr (.inl f)) => bif t == 1 && pm_in (Int32.ofNat j) n then pm_go (pc + 1) (ls.map (ev_dL xs)) (.long (f (Int32.ofNat j).toNatClampNeg) :: r.map (ev_dV xs)) ph else none
          | _ => none) = _
        rw [z1]
        show (bif 1 == 1 && pm_in (Int32.ofNat j) k then _ else none) = _
        rw [ev_in (ev_le g3) (ev_lt g4), ev_clamp (ev_le g3) (ev_lt g4)]
        rfl
      · show Value.long (f j) :: _ = ev_dV xs (1, ev_ln8 N j) :: r.map (ev_dV xs)
        rw [ev_dV1, hf j (ev_lt g4)]
    · cases h2
  · cases hs
theorem ev_k34 {t : Nat} (h : (Nat.beq t 3 || Nat.beq t 4) = true) : (t = 3 ∨ t = 4) ∧ (t == 3 || t == 4) = true := by
  rw [Bool.or_eq_true] at h
  rcases h with g | g
  · obtain rfl := ev_be g; exact ⟨Or.inl rfl, rfl⟩
  · obtain rfl := ev_be g; exact ⟨Or.inr rfl, rfl⟩
theorem ev_t_aaload : ev_SI L xs E cE cP o ini ret nL pc .aaload len a b v (ev_aal (Nat.add pc 1)) := by
  intro ls st h ph s' hl hH hs
  unfold ev_aal at hs
  split at hs
  · next tj j tx x r =>
    obtain ⟨gj, h1⟩ := ev_c hs
    obtain ⟨h0, h1b⟩ := ev_c h1
    obtain rfl := ev_be gj
    obtain rfl := ev_be h0
    obtain ⟨g1, h2⟩ := ev_c h1b
    split at h2
    · next t k N ov hc =>
      obtain ⟨g2, h3⟩ := ev_c h2
      obtain ⟨g3, h4⟩ := ev_c h3
      obtain ⟨g4, h5⟩ := ev_c h4
      obtain ⟨t1, t2⟩ := ev_k34 g2
      obtain ⟨z, z1, z2⟩ := ev_arr (X := pm_sX L xs) hH (ev_lt g1) hc
      obtain ⟨f, rfl, hf⟩ := ev_RA_ref t1 z2
      have e : pm_step (pm_sX L xs) cP o ini ret pc (ls.map (ev_dL xs)) (((0, j) :: (2, x) :: r).map (ev_dV xs)) ph .aaload len a b v = pm_go (pc + 1) (ls.map (ev_dL xs)) (va_rf (f j) :: r.map (ev_dV xs)) ph := by
        show (match pm_arr (pm_sX L xs) ph (.ref x) with
          | some (t, n, .inr (.inr (.inr (.inr f)))) => bif (t == 3 || t == 4) && pm_in (Int32.ofNat j) n then pm_go (pc + 1) (ls.map (ev_dL xs)) (va_rf (f (Int32.ofNat j).toNatClampNeg) :: r.map (ev_dV xs)) ph else none
          | _ => none) = _
        rw [z1]
        show (bif (t == 3 || t == 4) && pm_in (Int32.ofNat j) k then _ else none) = _
        rw [t2, ev_in (ev_le g3) (ev_lt g4), ev_clamp (ev_le g3) (ev_lt g4)]
        rfl
      rw [hf j (ev_lt g4)] at e
      generalize ev_ln N j = q at h5 e
      cases q with
      | zero =>
        obtain rfl := ev_go_inv (show ev_go _ _ _ _ = some (.inl s') from h5)
        refine ⟨_, e, rfl, rfl, ?_, hl, hH⟩
        show Value.null :: _ = ev_dV xs (10, 0) :: r.map (ev_dV xs)
        rw [ev_dVn]
      | succ q =>
        obtain rfl := ev_go_inv (show ev_go _ _ _ _ = some (.inl s') from h5)
        exact ⟨_, e, rfl, rfl, rfl, hl, hH⟩
    · cases h2
  · cases hs
theorem ev_RH_same {h : ev_H} {ph : pm_H} {x : Nat} {p : pm_C} (hH : ev_RH xs h ph) (hx : x < h.1) (hc : ev_RC xs (ev_get h.2.2 x) p) : ev_RH xs h (pm_hset ph x p) := by
  obtain ⟨e1, e2, e3, e4, e5⟩ := hH
  refine ⟨e1, e2, e3, e4, fun y hy => ?_⟩
  show ev_RC xs (ev_get h.2.2 y) (va_up ph.2.2 x p y)
  by_cases hyx : y = x
  · rw [hyx, va_up_self]; exact hc
  · rw [va_up_ne _ _ hyx]; exact e5 y hy
theorem ev_t_iastore : ev_SI L xs E cE cP o ini ret nL pc .iastore len a b v (ev_ias (Nat.add pc 1)) := by
  intro ls st h ph s' hl hH hs
  unfold ev_ias at hs
  split at hs
  · next tv y tj j tx x r =>
    obtain ⟨gj, h1⟩ := ev_c hs
    obtain ⟨h0, h1b⟩ := ev_c h1
    obtain rfl := ev_be gj
    obtain rfl := ev_be h0
    obtain ⟨g1, h2⟩ := ev_c h1b
    split at h2
    · next t k N ov hc =>
      obtain ⟨g2, h3⟩ := ev_c h2
      obtain ⟨g3, h4⟩ := ev_c h3
      obtain ⟨g4, h5⟩ := ev_c h4
      obtain rfl := ev_be g2
      obtain ⟨z, z1, z2⟩ := ev_arr (X := pm_sX L xs) hH (ev_lt g1) hc
      obtain ⟨f, rfl, hf⟩ := ev_RA_int (Or.inl rfl) z2
      have key : ∀ u : Int32, pm_step (pm_sX L xs) cP o ini ret pc (ls.map (ev_dL xs)) (.int u :: .int (Int32.ofNat j) :: .ref x :: r.map (ev_dV xs)) ph .iastore len a b v = pm_go (pc + 1) (ls.map (ev_dL xs)) (r.map (ev_dV xs)) (pm_hset ph x (.inl (0, k, .inl (upd f j u)))) := by
        intro u
        show (match pm_arr (pm_sX L xs) ph (.ref x) with
          | some (t, n, .inl f) => bif t == 0 && pm_in (Int32.ofNat j) n then pm_go (pc + 1) (ls.map (ev_dL xs)) (r.map (ev_dV xs)) (pm_hset ph x (.inl (0, n, .inl (upd f (Int32.ofNat j).toNatClampNeg u)))) else none
          | _ => none) = _
        rw [z1]
        show (bif 0 == 0 && pm_in (Int32.ofNat j) k then _ else none) = _
        rw [ev_in (ev_le g3) (ev_lt g4), ev_clamp (ev_le g3) (ev_lt g4)]
        rfl
      cases h6 : Nat.beq tv 0 with
      | true =>
        rw [h6, cond_true] at h5
        obtain rfl := ev_be h6
        cases h7 : (ov.isEmpty && Nat.beq (ev_ln N j) (Nat.mod y 4294967296)) with
        | true =>
          rw [h7, cond_true] at h5
          obtain rfl := ev_go_inv h5
          rw [Bool.and_eq_true] at h7
          have hov : ov = [] := by
            cases ov with
            | nil => rfl
            | cons q t => cases h7.1
          subst hov
          have hln : ev_ln N j = y % 4294967296 := ev_be h7.2
          refine ⟨_, key (Int32.ofNat y), rfl, rfl, rfl, hl, ev_RH_same hH (ev_lt g1) ?_⟩
          rw [hc]
          refine ⟨_, rfl, Or.inl rfl, fun q hq => ?_⟩
          by_cases hqj : q = j
          · subst hqj
            show upd f q (Int32.ofNat y) q = Int32.ofNat (ev_ln N q)
            rw [hln, ev_ofN_mod]
            simp [upd]
          · rw [← hf q hq]
            simp [upd, hqj]
        | false =>
          rw [h7, cond_false, ev_ovdK_eq, ev_fK_eq, ev_hsK_eq] at h5
          obtain rfl := ev_go_inv h5
          refine ⟨_, key (Int32.ofNat y), rfl, rfl, rfl, hl, ev_RH_set hH (ev_lt g1) ⟨_, rfl, Or.inl rfl, fun q hq => ?_⟩⟩
          by_cases hqj : q = j
          · subst hqj
            rw [ev_rd_self]
            show upd f q (Int32.ofNat y) q = Int32.ofNat (ev_ln (ev_lset N q y) q)
            rw [ev_lset_eq, if_pos rfl, ev_ofN_mod]
            simp [upd]
          · rw [ev_rd_ovd _ _ _ _ hqj, ev_rd_N ov _ N q (by rw [ev_lset_eq, if_neg hqj]), ← hf q hq]
            simp [upd, hqj]
      | false =>
        rw [h6, cond_false] at h5
        obtain ⟨g5, h7⟩ := ev_c h5
        obtain rfl := ev_be g5
        rw [ev_ovdK_eq, ev_hsK_eq] at h7
        obtain rfl := ev_go_inv h7
        rw [List.map_cons, ev_dV4]
        refine ⟨_, key (ev_dI xs y), rfl, rfl, rfl, hl, ev_RH_set hH (ev_lt g1) ⟨_, rfl, Or.inl rfl, fun q hq => ?_⟩⟩
        show upd f j (ev_dI xs y) q = ev_int xs (if j = q then (4, y) else ev_rd (ev_ovd ov j) N q)
        by_cases hqj : q = j
        · subst hqj
          rw [if_pos rfl]
          simp [upd, ev_int]
        · rw [if_neg (Ne.symm hqj), ev_rd_ovd _ _ _ _ hqj, ← hf q hq]
          simp [upd, hqj]
    · cases h2
  · cases hs
theorem ev_t_bastore : ev_SI L xs E cE cP o ini ret nL pc .bastore len a b v (ev_bas (Nat.add pc 1)) := by
  intro ls st h ph s' hl hH hs
  unfold ev_bas at hs
  split at hs
  · next tv y tj j tx x r =>
    obtain ⟨gj, h1⟩ := ev_c hs
    obtain ⟨h0, h1b⟩ := ev_c h1
    obtain rfl := ev_be gj
    obtain rfl := ev_be h0
    obtain ⟨g1, h2⟩ := ev_c h1b
    split at h2
    · next t k N ov hc =>
      obtain ⟨g2, h3⟩ := ev_c h2
      obtain ⟨g3, h4⟩ := ev_c h3
      obtain ⟨g4, h5⟩ := ev_c h4
      obtain ⟨g5, h6⟩ := ev_c h5
      obtain rfl := ev_be g2
      obtain rfl := ev_be g5
      obtain ⟨z, z1, z2⟩ := ev_arr (X := pm_sX L xs) hH (ev_lt g1) hc
      obtain ⟨f, rfl, hf⟩ := ev_RA_int (Or.inr rfl) z2
      rw [ev_ovdK_eq, ev_fK_eq, ev_hsK_eq] at h6
      obtain rfl := ev_go_inv h6
      have key : pm_step (pm_sX L xs) cP o ini ret pc (ls.map (ev_dL xs)) (((0, y) :: (0, j) :: (2, x) :: r).map (ev_dV xs)) ph .bastore len a b v = pm_go (pc + 1) (ls.map (ev_dL xs)) (r.map (ev_dV xs)) (pm_hset ph x (.inl (2, k, .inl (upd f j (Int32.ofNat y &&& 1))))) := by
        show (match pm_arr (pm_sX L xs) ph (.ref x) with
          | some (t, n, .inl f) => bif t == 2 && pm_in (Int32.ofNat j) n then pm_go (pc + 1) (ls.map (ev_dL xs)) (r.map (ev_dV xs)) (pm_hset ph x (.inl (2, n, .inl (upd f (Int32.ofNat j).toNatClampNeg (Int32.ofNat y &&& 1))))) else none
          | _ => none) = _
        rw [z1]
        show (bif 2 == 2 && pm_in (Int32.ofNat j) k then _ else none) = _
        rw [ev_in (ev_le g3) (ev_lt g4), ev_clamp (ev_le g3) (ev_lt g4)]
        rfl
      refine ⟨_, key, rfl, rfl, rfl, hl, ev_RH_set hH (ev_lt g1) ⟨_, rfl, Or.inr rfl, fun q hq => ?_⟩⟩
      by_cases hqj : q = j
      · subst hqj
        rw [ev_rd_self]
        show upd f q (Int32.ofNat y &&& 1) q = Int32.ofNat (ev_ln (ev_lset N q (Nat.mod y 2)) q)
        rw [ev_lset_eq, if_pos rfl, ev_ofN_mod, ev_and1]
        simp [upd]
      · rw [ev_rd_ovd _ _ _ _ hqj, ev_rd_N ov _ N q (by rw [ev_lset_eq, if_neg hqj]), ← hf q hq]
        simp [upd, hqj]
    · cases h2
  · cases hs
theorem ev_ofL {a b : Nat} (h : a % 18446744073709551616 = b % 18446744073709551616) : Int64.ofNat a = Int64.ofNat b := by
  apply Int64.toInt_inj.mp
  rw [ev_toL, ev_toL]
  have : ev_ofs8 a = ev_ofs8 b := by
    show (a + 9223372036854775808) % 18446744073709551616 = (b + 9223372036854775808) % 18446744073709551616
    omega
  rw [this]
theorem ev_t_lastore : ev_SI L xs E cE cP o ini ret nL pc .lastore len a b v (ev_las (Nat.add pc 1)) := by
  intro ls st h ph s' hl hH hs
  unfold ev_las at hs
  split at hs
  · next tv y tj j tx x r =>
    obtain ⟨gj, h1⟩ := ev_c hs
    obtain ⟨h0, h1b⟩ := ev_c h1
    obtain rfl := ev_be gj
    obtain rfl := ev_be h0
    obtain ⟨g1, h2⟩ := ev_c h1b
    split at h2
    · next t k N ov hc =>
      obtain ⟨g2, h3⟩ := ev_c h2
      obtain ⟨g3, h4⟩ := ev_c h3
      obtain ⟨g4, h5⟩ := ev_c h4
      obtain ⟨g5, h6⟩ := ev_c h5
      obtain rfl := ev_be g2
      obtain rfl := ev_be g5
      obtain ⟨z, z1, z2⟩ := ev_arr (X := pm_sX L xs) hH (ev_lt g1) hc
      obtain ⟨f, rfl, hf⟩ := ev_RA_long z2
      rw [ev_fK_eq, ev_hsK_eq] at h6
      obtain rfl := ev_go_inv h6
      have key : pm_step (pm_sX L xs) cP o ini ret pc (ls.map (ev_dL xs)) (((1, y) :: (0, j) :: (2, x) :: r).map (ev_dV xs)) ph .lastore len a b v = pm_go (pc + 1) (ls.map (ev_dL xs)) (r.map (ev_dV xs)) (pm_hset ph x (.inl (1, k, .inr (.inl (vp_updL f j (Int64.ofNat y)))))) := by
        show (match pm_arr (pm_sX L xs) ph (.ref x) with
          | some (t, n, .inr (.inl f)) => bif t == 1 && pm_in (Int32.ofNat j) n then pm_go (pc + 1) (ls.map (ev_dL xs)) (r.map (ev_dV xs)) (pm_hset ph x (.inl (1, n, .inr (.inl (vp_updL f (Int32.ofNat j).toNatClampNeg (Int64.ofNat y)))))) else none
          | _ => none) = _
        rw [z1]
        show (bif 1 == 1 && pm_in (Int32.ofNat j) k then _ else none) = _
        rw [ev_in (ev_le g3) (ev_lt g4), ev_clamp (ev_le g3) (ev_lt g4)]
        rfl
      refine ⟨_, key, rfl, rfl, rfl, hl, ev_RH_set hH (ev_lt g1) ⟨_, rfl, rfl, fun q hq => ?_⟩⟩
      rw [ev_lset8_eq]
      by_cases hqj : q = j
      · subst hqj
        rw [if_pos rfl, ev_ofL (a := y % 18446744073709551616) (b := y) (by omega)]
        simp [vp_updL]
      · rw [if_neg hqj, ← hf q hq]
        simp [vp_updL, hqj]
    · cases h2
  · cases hs
theorem ev_isO_ok {h : ev_H} {ph : pm_H} {x ci : Nat} (hH : ev_RH xs h ph) (hi : ev_isO h x ci = true) : ∃ fs, pm_obj ph (.ref x) = some (x, ci, fs) := by
  unfold ev_isO at hi
  cases hx : Nat.blt x h.1 with
  | false => rw [hx] at hi; cases hi
  | true =>
    rw [hx, cond_true] at hi
    split at hi
    · next cj fs hc =>
      obtain rfl := ev_be hi
      exact ⟨_, (ev_obj hH (ev_lt hx) hc).1⟩
    · cases hi
theorem ev_t_aastore : ev_SI L xs E cE cP o ini ret nL pc .aastore len a b v (ev_aas (Nat.add pc 1)) := by
  intro ls st h ph s' hl hH hs
  unfold ev_aas at hs
  split at hs
  · next tv y tj j tx x r =>
    obtain ⟨gj, h1⟩ := ev_c hs
    obtain ⟨h0, h1b⟩ := ev_c h1
    obtain rfl := ev_be gj
    obtain rfl := ev_be h0
    obtain ⟨g1, h2⟩ := ev_c h1b
    split at h2
    · next t k N ov hc =>
      obtain ⟨g2, h3⟩ := ev_c h2
      obtain ⟨g3, h4⟩ := ev_c h3
      obtain ⟨g4, h5⟩ := ev_c h4
      obtain ⟨t1, t2⟩ := ev_k34 g2
      obtain ⟨z, z1, z2⟩ := ev_arr (X := pm_sX L xs) hH (ev_lt g1) hc
      obtain ⟨f, rfl, hf⟩ := ev_RA_ref t1 z2
      cases h6 : Nat.beq tv 10 with
      | true =>
        rw [h6, cond_true, ev_fK_eq, ev_hsK_eq] at h5
        obtain rfl := ev_be h6
        obtain rfl := ev_go_inv h5
        rw [List.map_cons, ev_dVn]
        have key : pm_step (pm_sX L xs) cP o ini ret pc (ls.map (ev_dL xs)) (.null :: ((0, j) :: (2, x) :: r).map (ev_dV xs)) ph .aastore len a b v = pm_go (pc + 1) (ls.map (ev_dL xs)) (r.map (ev_dV xs)) (pm_hset ph x (.inl (t, k, .inr (.inr (.inr (.inr (va_up f j none))))))) := by
          show (match pm_arr (pm_sX L xs) ph (.ref x) with
            | some (t, n, .inr (.inr (.inr (.inr f)))) => bif (t == 3 || t == 4) && pm_in (Int32.ofNat j) n then pm_go (pc + 1) (ls.map (ev_dL xs)) (r.map (ev_dV xs)) (pm_hset ph x (.inl (t, n, .inr (.inr (.inr (.inr (va_up f (Int32.ofNat j).toNatClampNeg none))))))) else none
            | _ => none) = _
          rw [z1]
          show (bif (t == 3 || t == 4) && pm_in (Int32.ofNat j) k then _ else none) = _
          rw [t2, ev_in (ev_le g3) (ev_lt g4), ev_clamp (ev_le g3) (ev_lt g4)]
          rfl
        refine ⟨_, key, rfl, rfl, rfl, hl, ev_RH_set hH (ev_lt g1) ⟨_, rfl, t1, fun q hq => ?_⟩⟩
        rw [ev_lset_eq]
        by_cases hqj : q = j
        · subst hqj
          rw [if_pos rfl, va_up_self]
          rfl
        · rw [if_neg hqj, va_up_ne _ _ hqj, hf q hq]
      | false =>
        rw [h6, cond_false] at h5
        obtain ⟨g5, h7⟩ := ev_c h5
        obtain ⟨g6, h8⟩ := ev_c h7
        obtain ⟨g7, h9⟩ := ev_c h8
        rw [ev_fK_eq, ev_hsK_eq] at h9
        obtain rfl := ev_be g5
        obtain rfl := ev_go_inv h9
        obtain ⟨fs, hfs⟩ := ev_isO_ok hH g7
        have hy : y < 16777216 := ev_lt g6
        have key : pm_step (pm_sX L xs) cP o ini ret pc (ls.map (ev_dL xs)) (((2, y) :: (0, j) :: (2, x) :: r).map (ev_dV xs)) ph .aastore len a b v = pm_go (pc + 1) (ls.map (ev_dL xs)) (r.map (ev_dV xs)) (pm_hset ph x (.inl (t, k, .inr (.inr (.inr (.inr (va_up f j (some y)))))))) := by
          show (match pm_arr (pm_sX L xs) ph (.ref x), pm_obj ph (.ref y) with
            | some (t, n, .inr (.inr (.inr (.inr f)))), some (_, ci, _) => bif (t == 3 || t == 4) && pm_in (Int32.ofNat j) n && ci == pm_ak t then pm_go (pc + 1) (ls.map (ev_dL xs)) (r.map (ev_dV xs)) (pm_hset ph x (.inl (t, n, .inr (.inr (.inr (.inr (va_up f (Int32.ofNat j).toNatClampNeg (some y)))))))) else none
            | _, _ => none) = _
          rw [z1, hfs]
          show (bif (t == 3 || t == 4) && pm_in (Int32.ofNat j) k && pm_ak t == pm_ak t then _ else none) = _
          rw [t2, ev_in (ev_le g3) (ev_lt g4), ev_clamp (ev_le g3) (ev_lt g4), beq_self_eq_true]
          rfl
        refine ⟨_, key, rfl, rfl, rfl, hl, ev_RH_set hH (ev_lt g1) ⟨_, rfl, t1, fun q hq => ?_⟩⟩
        rw [ev_lset_eq]
        by_cases hqj : q = j
        · subst hqj
          rw [if_pos rfl, va_up_self, Nat.mod_eq_of_lt (show Nat.succ y < 4294967296 by omega)]
          rfl
        · rw [if_neg hqj, va_up_ne _ _ hqj, hf q hq]
    · cases h2
  · cases hs
/-! calls -/
theorem ev_w8_ok (l : List ev_V) : ∀ n, ev_w8 l n = true → ((l.map (ev_dV xs)).map fun v => v.category).sum + n ≤ 8 := by
  induction l with
  | nil => intro n hn; have := ev_le (show Nat.ble n 8 = true from hn); simpa using this
  | cons w t ih =>
    intro n hn
    have hn : ev_w8 t (cond (Nat.beq (Nat.mod w.1 4) 1) (Nat.succ (Nat.succ n)) (Nat.succ n)) = true := hn
    have := ih _ hn
    obtain ⟨q, p⟩ := w
    have hcat : (ev_dV xs (q, p)).category = cond (Nat.beq (Nat.mod q 4) 1) 2 1 := by
      by_cases h1 : q % 4 = 1
      · rw [ev_dVl h1, show Nat.beq (Nat.mod q 4) 1 = true from ev_bt h1]; rfl
      · rw [show Nat.beq (Nat.mod q 4) 1 = false from ev_bf h1]
        by_cases h0 : q % 4 = 0
        · rw [ev_dVi h0]; rfl
        · unfold ev_dV
          rw [if_neg (show ¬ q % 4 = 0 from h0), if_neg (show ¬ q % 4 = 1 from h1)]
          by_cases h2 : q = 2
          · rw [if_pos h2]; rfl
          · rw [if_neg h2]
            by_cases h6 : q = 6
            · rw [if_pos h6]; rfl
            · rw [if_neg h6]; rfl
    simp only [List.map_cons, List.sum_cons]
    rw [hcat]
    cases hb : Nat.beq (Nat.mod q 4) 1 with
    | true => rw [hb] at this; simp only [cond_true] at this ⊢; omega
    | false => rw [hb] at this; simp only [cond_false] at this ⊢; omega
theorem ev_w8_pm {l : List ev_V} (h : ev_w8 l 0 = true) : pm_w8 (l.map (ev_dV xs)) = true := decide_eq_true (ev_w8_ok (xs := xs) l 0 h)
theorem ev_t_acp {ix mid : Nat} : ev_SI L xs E cE cP o ini ret nL pc (.invokestatic ix) len 5 mid v (ev_acp (Nat.add pc 3)) := by
  intro ls st h ph s' hl hH hs
  unfold ev_acp at hs
  split at hs
  · next tn k td dp ta a1 ts sp tb a0 r =>
    obtain ⟨g0, h1⟩ := ev_c hs
    simp only [Bool.and_eq_true] at g0
    obtain ⟨⟨⟨⟨⟨⟨⟨g1, g2⟩, g3⟩, g4⟩, g5⟩, g6⟩, g7⟩, g8⟩ := g0
    obtain rfl := ev_be g1
    obtain rfl := ev_be g2
    obtain rfl := ev_be g3
    obtain rfl := ev_be g4
    obtain rfl := ev_be g5
    split at h1
    · next k0 n0 S k1 n1 N hc0 hc1 =>
      obtain ⟨g9, h2⟩ := ev_c h1
      simp only [Bool.and_eq_true] at g9
      obtain ⟨⟨⟨⟨⟨q1, q2⟩, q3⟩, q4⟩, q5⟩, q6⟩ := g9
      obtain rfl := ev_be q1
      obtain rfl := ev_be q2
      rw [ev_fK_eq, ev_hsK_eq] at h2
      obtain rfl := ev_go_inv h2
      obtain ⟨z0, z1, z2⟩ := ev_arr (X := pm_sX L xs) hH (ev_lt g6) hc0
      obtain ⟨f, rfl, hf⟩ := ev_RA_int (Or.inl rfl) z2
      obtain ⟨y0, y1, y2⟩ := ev_arr (X := pm_sX L xs) hH (ev_lt g7) hc1
      obtain ⟨g, rfl, hg⟩ := ev_RA_int (Or.inl rfl) y2
      have b3 := ev_le q3
      have b4 := ev_le q4
      have b5 : sp + k ≤ n0 := ev_le q5
      have b6 : dp + k ≤ n1 := ev_le q6
      have c1 : (Int32.ofNat sp).toNatClampNeg = sp := Int32.toNatClampNeg_ofNat_of_lt (by omega)
      have c2 : (Int32.ofNat dp).toNatClampNeg = dp := Int32.toNatClampNeg_ofNat_of_lt (by omega)
      have c3 : (Int32.ofNat k).toNatClampNeg = k := Int32.toNatClampNeg_ofNat_of_lt (by omega)
      refine ⟨(pc + 3, ls.map (ev_dL xs), r.map (ev_dV xs), pm_hset ph a1 (.inl (0, n1, .inl (va_cpy f g sp dp k)))), ?_, rfl, rfl, rfl, hl, ev_RH_set hH (ev_lt g7) ⟨_, rfl, Or.inl rfl, fun q hq => ?_⟩⟩
      · show (match pm_arr (pm_sX L xs) ph (.ref a0), pm_arr (pm_sX L xs) ph (.ref a1) with
          | some (t0, n0, .inl f), some (t1, n1, .inl g) => bif t0 == 0 && t1 == 0 && !decide (Int32.ofNat sp < 0) && !decide (Int32.ofNat dp < 0) && !decide (Int32.ofNat k < 0) && decide ((Int32.ofNat sp).toNatClampNeg + (Int32.ofNat k).toNatClampNeg ≤ n0) && decide ((Int32.ofNat dp).toNatClampNeg + (Int32.ofNat k).toNatClampNeg ≤ n1) && pm_w8 (r.map (ev_dV xs)) then
              pm_go (pc + 3) (ls.map (ev_dL xs)) (r.map (ev_dV xs)) (pm_hset ph a1 (.inl (0, n1, .inl (va_cpy f g (Int32.ofNat sp).toNatClampNeg (Int32.ofNat dp).toNatClampNeg (Int32.ofNat k).toNatClampNeg)))) else none
          | _, _ => none) = _
        rw [z1, y1]
        show (bif 0 == 0 && 0 == 0 && !decide (Int32.ofNat sp < 0) && !decide (Int32.ofNat dp < 0) && !decide (Int32.ofNat k < 0) && decide ((Int32.ofNat sp).toNatClampNeg + (Int32.ofNat k).toNatClampNeg ≤ n0) && decide ((Int32.ofNat dp).toNatClampNeg + (Int32.ofNat k).toNatClampNeg ≤ n1) && pm_w8 (r.map (ev_dV xs)) then _ else none) = _
        rw [c1, c2, c3, decide_eq_false (ev_nneg (show sp ≤ 16777216 by omega)), decide_eq_false (ev_nneg (show dp ≤ 16777216 by omega)), decide_eq_false (ev_nneg (show k ≤ 16777216 by omega)), decide_eq_true b5, decide_eq_true b6, ev_w8_pm g8]
        rfl
      · show va_cpy f g sp dp k q = Int32.ofNat (ev_ln (ev_cpy S N sp dp k) q)
        rw [ev_cpy_eq]
        unfold va_cpy
        by_cases hk : dp ≤ q ∧ q < dp + k
        · rw [if_pos hk, if_pos hk, hf (sp + (q - dp)) (by omega)]
          rfl
        · rw [if_neg hk, if_neg hk, hg q hq]
          rfl
    · cases h1
  · cases hs
theorem ev_t_oi {ix mid : Nat} : ev_SI L xs E cE cP o ini ret nL pc (.invokespecial ix) len 4 mid v (ev_oi (Nat.add pc 3)) := by
  intro ls st h ph s' hl hH hs
  unfold ev_oi at hs
  split at hs
  · next tx x r =>
    obtain ⟨g1, h2⟩ := ev_c hs
    obtain ⟨g2, h3⟩ := ev_c h2
    obtain rfl := ev_be g1
    obtain rfl := ev_go_inv h3
    have e : pm_step (pm_sX L xs) cP o ini ret pc (ls.map (ev_dL xs)) (((2, x) :: r).map (ev_dV xs)) ph (.invokespecial ix) len 4 mid v = (bif pm_w8 (r.map (ev_dV xs)) then pm_go (pc + 3) (ls.map (ev_dL xs)) (r.map (ev_dV xs)) ph else none) := rfl
    rw [ev_w8_pm g2] at e
    exact ⟨_, e, ev_mk hl hH⟩
  · cases hs
theorem ev_popK_inv {y : ev_S ⊕ ev_R} : ∀ (na : Nat) (st acc : List ev_V) (K : List ev_V → List ev_V → ev_O), ev_popK na st acc K = some y → na ≤ st.length ∧ K ((st.take na).reverse ++ acc) (st.drop na) = some y
  | 0, st, acc, K, h => ⟨Nat.zero_le _, by
    have h : K acc st = some y := h
    simpa using h⟩
  | n + 1, [], acc, K, h => by cases h
  | n + 1, w :: r, acc, K, h => by
    have h : ev_popK n r (w :: acc) K = some y := h
    obtain ⟨h1, h2⟩ := ev_popK_inv n r (w :: acc) K h
    refine ⟨by simpa using h1, ?_⟩
    simpa using h2
theorem ev_inv_inv {n kind mid na ci : Nat} {ls st : List ev_V} {h : ev_H} {s' : ev_S} (hs : ev_inv n kind mid na ci cE E ls st h = some (.inl s')) : na ≤ st.length ∧ ev_rcv kind ci (st.take na).reverse h = true ∧ ev_w8 (st.drop na) 0 = true ∧ ∃ h' r, cE mid (st.take na).reverse h = some (h', r) ∧ s' = (n, ls, r.toList ++ st.drop na, h') := by
  unfold ev_inv at hs
  obtain ⟨g1, h1⟩ := ev_popK_inv _ _ _ _ hs
  rw [List.append_nil] at h1
  obtain ⟨g2, h2⟩ := ev_c h1
  obtain ⟨g3, h3⟩ := ev_c h2
  refine ⟨g1, g2, g3, ?_⟩
  split at h3
  · next h' u hc => exact ⟨h', some u, hc, ev_go_inv h3⟩
  · next h' hc => exact ⟨h', none, hc, ev_go_inv h3⟩
  · cases h3
theorem ev_co_ok : (List.range 12).all (fun i => decide (pm_cnm i = pm_own i)) = true := by decide +kernel
theorem ev_call_ok (hC : ev_SC xs cE cP) {q : pm_M} (hq : pm_mtL[b]? = some q) (hmk : pm_mOK q) {ls st : List ev_V} {h : ev_H} {ph : pm_H} {s' : ev_S} {ci ik : Nat} (hl : ls.length = nL) (hH : ev_RH xs h ph) (ha : (a = 0 ∧ ik = 0 ∧ ci < 12 ∧ ci = q.2.2.2.2.1) ∨ (a = 7 ∧ ik = 0) ∨ (a = 2 ∧ ik = 2 ∧ ci < 12 ∧ ci = q.2.2.2.2.1) ∨ ((a = 1 ∨ a = 3) ∧ ik = 1)) (hs : ev_inv (Nat.add pc 3) a b q.2.2.2.2.2.1 ci cE E ls st h = some (.inl s')) :
    ∃ ps', pm_inv (pm_sX L xs) cP ik pc (ls.map (ev_dL xs)) (st.map (ev_dV xs)) ph a b = some (.inl ps') ∧ ev_RS xs nL s' ps' := by
  obtain ⟨g1, g2, g3, h', r, hc, rfl⟩ := ev_inv_inv hs
  obtain ⟨pr, p1, p2, p3⟩ := hC _ _ _ _ _ hc hH
  obtain ⟨ph', pv⟩ := pr
  have p3 : pv = r.map (ev_dV xs) := p3
  subst p3
  have e1 : ((st.map (ev_dV xs)).take q.2.2.2.2.2.1).reverse = (st.take q.2.2.2.2.2.1).reverse.map (ev_dV xs) := by rw [← List.map_take, List.map_reverse]
  have e2 : (st.map (ev_dV xs)).drop q.2.2.2.2.2.1 = (st.drop q.2.2.2.2.2.1).map (ev_dV xs) := by rw [List.map_drop]
  have hrcv : pm_rcv a q.2.2.2.2.2.1 q.1.cls (st.map (ev_dV xs)) ph = true := by
    have hobj : ∀ (kk : Nat), (match (st.take q.2.2.2.2.2.1).reverse with
        | (t, x) :: _ => Nat.beq t 2 && ev_isO h x ci
        | [] => false) = true → ci < 12 → ci = q.2.2.2.2.1 → (match pm_obj ph (((st.map (ev_dV xs)).take q.2.2.2.2.2.1).getLastD .null) with
        | some x => decide (pm_cnm x.2.1 = q.1.cls)
        | none => false) = true := by
      intro _ g c1 c2
      cases has : (st.take q.2.2.2.2.2.1).reverse with
      | nil => rw [has] at g; cases g
      | cons w0 As =>
        rw [has] at g e1
        obtain ⟨t, x⟩ := w0
        have g : (Nat.beq t 2 && ev_isO h x ci) = true := g
        rw [Bool.and_eq_true] at g
        obtain rfl := ev_be g.1
        obtain ⟨fs, hfs⟩ := ev_isO_ok hH g.2
        rw [(pm_take (st := st.map (ev_dV xs)) e1).2, ev_dV2, hfs]
        have h1 := of_decide_eq_true (List.all_eq_true.mp ev_co_ok ci (List.mem_range.mpr c1))
        exact decide_eq_true (by show pm_cnm ci = q.1.cls; rw [h1, c2]; exact hmk.2.2.2.2.1)
    rcases ha with ⟨rfl, rfl, c1, c2⟩ | ⟨rfl, rfl⟩ | ⟨rfl, rfl, c1, c2⟩ | ⟨ha, rfl⟩
    · exact hobj 0 g2 c1 c2
    · have g2 : (match (st.take q.2.2.2.2.2.1).reverse with
        | (t, x) :: _ => Nat.beq t 6 && Nat.blt x 23
        | [] => false) = true := g2
      show pm_isStr (((st.map (ev_dV xs)).take q.2.2.2.2.2.1).getLastD .null) = true
      cases has : (st.take q.2.2.2.2.2.1).reverse with
      | nil => rw [has] at g2; cases g2
      | cons w0 As =>
        rw [has] at g2 e1
        obtain ⟨t, x⟩ := w0
        have g2 : (Nat.beq t 6 && Nat.blt x 23) = true := g2
        rw [Bool.and_eq_true] at g2
        obtain rfl := ev_be g2.1
        rw [(pm_take (st := st.map (ev_dV xs)) e1).2, ev_dV6]
        exact decide_eq_true (ev_lt g2.2)
    · exact hobj 0 g2 c1 c2
    · rcases ha with rfl | rfl <;> rfl
  have hcall : pm_call cP a b q.2.2.2.2.2.1 q.1.cls pc (ls.map (ev_dL xs)) (st.map (ev_dV xs)) ph = pm_go (pc + 3) (ls.map (ev_dL xs)) ((r.toList ++ st.drop q.2.2.2.2.2.1).map (ev_dV xs)) ph' := by
    show (bif decide (q.2.2.2.2.2.1 ≤ (st.map (ev_dV xs)).length) && pm_w8 ((st.map (ev_dV xs)).drop q.2.2.2.2.2.1) && pm_rcv a q.2.2.2.2.2.1 q.1.cls (st.map (ev_dV xs)) ph then
      (match cP b ((st.map (ev_dV xs)).take q.2.2.2.2.2.1).reverse ph with
      | some (h', some v) => pm_go (pc + 3) (ls.map (ev_dL xs)) (v :: (st.map (ev_dV xs)).drop q.2.2.2.2.2.1) h'
      | some (h', none) => pm_go (pc + 3) (ls.map (ev_dL xs)) ((st.map (ev_dV xs)).drop q.2.2.2.2.2.1) h'
      | none => none) else none) = _
    rw [hrcv, decide_eq_true (by rw [List.length_map]; exact g1), e2, ev_w8_pm g3, e1, p1]
    cases r with
    | none => rfl
    | some u => rfl
  refine ⟨(pc + 3, ls.map (ev_dL xs), (r.toList ++ st.drop q.2.2.2.2.2.1).map (ev_dV xs), ph'), ?_, rfl, rfl, rfl, hl, p2⟩
  obtain ⟨y, b1, b2, b3, b4, b5, b6⟩ := q
  rcases ha with ⟨rfl, rfl, -⟩ | ⟨rfl, rfl⟩ | ⟨rfl, rfl, -⟩ | ⟨ha, rfl⟩
  · show (match pm_mtL[b]? with
      | some (y, _, _, _, _, na, _) => bif true then pm_call cP 0 b na y.cls pc (ls.map (ev_dL xs)) (st.map (ev_dV xs)) ph else none
      | none => none) = _
    rw [hq]
    exact hcall
  · show (match pm_mtL[b]? with
      | some (y, _, _, _, _, na, _) => bif true then pm_call cP 7 b na y.cls pc (ls.map (ev_dL xs)) (st.map (ev_dV xs)) ph else none
      | none => none) = _
    rw [hq]
    exact hcall
  · show (match pm_mtL[b]? with
      | some (y, _, _, _, _, na, _) => bif true then pm_call cP 2 b na y.cls pc (ls.map (ev_dL xs)) (st.map (ev_dV xs)) ph else none
      | none => none) = _
    rw [hq]
    exact hcall
  · rcases ha with rfl | rfl
    · show (match pm_mtL[b]? with
        | some (y, _, _, _, _, na, _) => bif true then pm_call cP 1 b na y.cls pc (ls.map (ev_dL xs)) (st.map (ev_dV xs)) ph else none
        | none => none) = _
      rw [hq]
      exact hcall
    · show (match pm_mtL[b]? with
        | some (y, _, _, _, _, na, _) => bif true then pm_call cP 3 b na y.cls pc (ls.map (ev_dL xs)) (st.map (ev_dV xs)) ph else none
        | none => none) = _
      rw [hq]
      exact hcall
end EVS3
