/-! what the evaluator does, the pure machine does: instructions -/
def ev_SC (xs : Nat → Int32) (cE : ev_Ca) (cP : Nat → List Value → pm_H → Option pm_R) : Prop := ∀ mid as h ph r, cE mid as h = some r → ev_RH xs h ph → ∃ pr, cP mid (as.map (ev_dV xs)) ph = some pr ∧ ev_RR xs r pr
def ev_SI (L : Nat) (xs : Nat → Int32) (E : ev_E) (cE : ev_Ca) (cP : Nat → List Value → pm_H → Option pm_R) (o : Nat) (ini : Bool) (ret : Option FieldType) (nL pc : Nat) (i : Instr) (len a b : Nat) (v : Value) (F : ev_F) : Prop :=
  ∀ ls st h ph s', ls.length = nL → ev_RH xs h ph → F cE E ls st h = some (.inl s') → ∃ ps', pm_step (pm_sX L xs) cP o ini ret pc (ls.map (ev_dL xs)) (st.map (ev_dV xs)) ph i len a b v = some (.inl ps') ∧ ev_RS xs nL s' ps'
theorem ev_go_inv {n : Nat} {ls st : List ev_V} {h : ev_H} {s' : ev_S} (hs : ev_go n ls st h = some (.inl s')) : s' = (n, ls, st, h) := (Sum.inl.inj (Option.some.inj hs)).symm
theorem ev_c {c : Bool} {x : ev_O} {y : ev_S ⊕ ev_R} (h : cond c x none = some y) : c = true ∧ x = some y := by
  cases c with
  | true => exact ⟨rfl, h⟩
  | false => cases h
theorem ev_be {a b : Nat} (h : Nat.beq a b = true) : a = b := Nat.eq_of_beq_eq_true h
theorem ev_lt {a b : Nat} (h : Nat.blt a b = true) : a < b := Nat.le_of_ble_eq_true h
theorem ev_le {a b : Nat} (h : Nat.ble a b = true) : a ≤ b := Nat.le_of_ble_eq_true h
theorem ev_nlt {a b : Nat} (h : Nat.blt a b = false) : b ≤ a := by
  rcases Nat.lt_or_ge a b with q | q
  · have : Nat.blt a b = true := Nat.ble_eq_true_of_le q
    rw [h] at this; cases this
  · exact q
theorem ev_nle {a b : Nat} (h : Nat.ble a b = false) : b < a := by
  rcases Nat.lt_or_ge b a with q | q
  · exact q
  · have : Nat.ble a b = true := Nat.ble_eq_true_of_le q
    rw [h] at this; cases this
section EVS
variable {L : Nat} {xs : Nat → Int32} {E : ev_E} {cE : ev_Ca} {cP : Nat → List Value → pm_H → Option pm_R} {o : Nat} {ini : Bool} {ret : Option FieldType} {nL pc len a b : Nat} {v : Value}
theorem ev_dVi {t p : Nat} (h : t % 4 = 0) : ev_dV xs (t, p) = .int (ev_int xs (t, p)) := by
  unfold ev_dV ev_int
  rw [if_pos h]
theorem ev_dVl {t p : Nat} (h : t % 4 = 1) : ev_dV xs (t, p) = .long (if t = 1 then Int64.ofNat p else (ev_dI xs p).toInt64) := by
  unfold ev_dV
  rw [if_neg (by show ¬ t % 4 = 0; omega), if_pos h]
theorem ev_dV0 {p : Nat} : ev_dV xs (0, p) = .int (Int32.ofNat p) := rfl
theorem ev_dV1 {p : Nat} : ev_dV xs (1, p) = .long (Int64.ofNat p) := rfl
theorem ev_dV2 {p : Nat} : ev_dV xs (2, p) = .ref p := rfl
theorem ev_dV4 {p : Nat} : ev_dV xs (4, p) = .int (ev_dI xs p) := by simp [ev_dV]
theorem ev_dV5 {p : Nat} : ev_dV xs (5, p) = .long (ev_dI xs p).toInt64 := by simp [ev_dV]
theorem ev_dV6 {p : Nat} : ev_dV xs (6, p) = .retAddr p := by simp [ev_dV]
theorem ev_dVn {p : Nat} : ev_dV xs (10, p) = .null := by simp [ev_dV]
theorem ev_dVr {t p : Nat} (h : t % 4 = 2) : pm_isR (ev_dV xs (t, p)) = true := by
  unfold ev_dV
  rw [if_neg (by show ¬ t % 4 = 0; omega), if_neg (by show ¬ t % 4 = 1; omega)]
  by_cases h2 : t = 2
  · rw [if_pos h2]; rfl
  · rw [if_neg h2]
    by_cases h6 : t = 6
    · rw [if_pos h6]; rfl
    · rw [if_neg h6]; rfl
theorem ev_dVc {t p : Nat} (h : t % 2 = 0) : pm_cat1 (ev_dV xs (t, p)) = true := by
  by_cases h0 : t % 4 = 0
  · rw [ev_dVi h0]; rfl
  · have := ev_dVr (xs := xs) (t := t) (p := p) (by omega)
    revert this
    generalize ev_dV xs (t, p) = u
    cases u <;> intro g <;> first | rfl | cases g
theorem ev_dLs {w : ev_V} (h : w.1 % 4 ≠ 3) : ev_dL xs w = some (ev_dV xs w) := by
  unfold ev_dL
  rw [if_neg h]
theorem ev_ld (ls : List ev_V) (k : Nat) : pm_ld (ls.map (ev_dL xs)) k = ev_dL xs (ls.getD k (3, 0)) := by
  unfold pm_ld
  rw [List.getD_eq_getElem?_getD, List.getD_eq_getElem?_getD, List.getElem?_map]
  cases ls[k]? <;> rfl
def ev_clr (ls : List ev_V) (k : Nat) : List ev_V := match k with
  | 0 => ls
  | j + 1 => if (ls.getD j (3, 0)).1 % 4 = 1 then ls.set j (3, 0) else ls
theorem ev_clrK_eq {β : Type} (ls : List ev_V) (k : Nat) (K : List ev_V → β) : ev_clrK ls k K = K (ev_clr ls k) := by
  cases k with
  | zero => rfl
  | succ j =>
    have e : ev_clrK ls (j + 1) K = cond (Nat.beq ((ev_nth (3, 0) ls j).1 % 4) 1) (ev_setK ls j (3, 0) K) (K ls) := rfl
    rw [e, ev_setK_eq, ev_nth_eq]
    show _ = K (if (ls.getD j (3, 0)).1 % 4 = 1 then ls.set j (3, 0) else ls)
    by_cases h : (ls.getD j (3, 0)).1 % 4 = 1
    · rw [if_pos h, ev_bt h]; rfl
    · rw [if_neg h, ev_bf h]; rfl
theorem ev_two (w : ev_V) : pm_two (ev_dL xs w) = decide (w.1 % 4 = 1) := by
  obtain ⟨t, p⟩ := w
  by_cases h1 : t % 4 = 1
  · rw [ev_dLs (by show t % 4 ≠ 3; omega), ev_dVl h1, decide_eq_true h1]; rfl
  · rw [decide_eq_false h1]
    unfold ev_dL
    by_cases h3 : t % 4 = 3
    · rw [if_pos h3]; rfl
    · rw [if_neg h3]
      by_cases h0 : t % 4 = 0
      · rw [ev_dVi h0]; rfl
      · have := ev_dVr (xs := xs) (t := t) (p := p) (by omega)
        revert this
        generalize ev_dV xs (t, p) = u
        cases u <;> intro g <;> first | rfl | cases g
theorem ev_clr_map (ls : List ev_V) (k : Nat) : pm_clr (ls.map (ev_dL xs)) k = (ev_clr ls k).map (ev_dL xs) := by
  cases k with
  | zero => rfl
  | succ j =>
    rw [pm_clr_succ]
    have e : (ls.map (ev_dL xs)).getD j none = ev_dL xs (ls.getD j (3, 0)) := ev_ld ls j
    rw [e, ev_two]
    show _ = (if (ls.getD j (3, 0)).1 % 4 = 1 then ls.set j (3, 0) else ls).map (ev_dL xs)
    by_cases h : (ls.getD j (3, 0)).1 % 4 = 1
    · rw [if_pos h, decide_eq_true h, List.map_set]; rfl
    · rw [if_neg h, decide_eq_false h]; rfl
theorem ev_clr_len (ls : List ev_V) (k : Nat) : (ev_clr ls k).length = ls.length := by
  cases k with
  | zero => rfl
  | succ j =>
    show (if (ls.getD j (3, 0)).1 % 4 = 1 then ls.set j (3, 0) else ls).length = _
    split
    · rw [List.length_set]
    · rfl
theorem ev_st1_map {ls : List ev_V} {k : Nat} {w : ev_V} (h : w.1 % 4 ≠ 3) : pm_st1 (ls.map (ev_dL xs)) k (ev_dV xs w) = ((ev_clr ls k).set k w).map (ev_dL xs) := by
  unfold pm_st1
  rw [ev_clr_map, List.map_set, ev_dLs h]
theorem ev_mk {n : Nat} {ls st : List ev_V} {h : ev_H} {ph : pm_H} (hl : ls.length = nL) (hH : ev_RH xs h ph) : ev_RS xs nL (n, ls, st, h) (n, ls.map (ev_dL xs), st.map (ev_dV xs), ph) := ⟨rfl, rfl, rfl, hl, hH⟩
theorem ev_push_inv {n t p : Nat} {ls st : List ev_V} {h : ev_H} {s' : ev_S} (hs : ev_push n t p cE E ls st h = some (.inl s')) : s' = (n, ls, (t, p) :: st, h) := by
  unfold ev_push at hs
  rw [ev_fK_eq] at hs
  exact ev_go_inv hs
theorem ev_pushV_inv {n : Nat} {ls st : List ev_V} {h : ev_H} {s' : ev_S} (hs : ev_pushV n v cE E ls st h = some (.inl s')) : ∃ u, s' = (n, ls, u :: st, h) ∧ ev_dV xs u = v := by
  unfold ev_pushV at hs
  split at hs
  · exact ⟨_, ev_push_inv hs, by rw [ev_dV0, ev_ci_eq]⟩
  · exact ⟨_, ev_push_inv hs, by rw [ev_dV1, ev_cl_eq]⟩
  · exact ⟨_, ev_push_inv hs, ev_dV6⟩
  · exact ⟨_, ev_push_inv hs, ev_dVn⟩
  · cases hs
theorem ev_t_aconst_null : ev_SI L xs E cE cP o ini ret nL pc .aconst_null len a b v (ev_push (Nat.add pc 1) 10 0) := by
  intro ls st h ph s' hl hH hs
  obtain rfl := ev_push_inv hs
  refine ⟨(pc + 1, ls.map (ev_dL xs), .null :: st.map (ev_dV xs), ph), rfl, rfl, rfl, ?_, hl, hH⟩
  show _ = ev_dV xs (10, 0) :: st.map (ev_dV xs)
  rw [ev_dVn]
theorem ev_t_iconst {n : Int} : ev_SI L xs E cE cP o ini ret nL pc (.iconst n) len a b v (ev_push (Nat.add pc 1) 0 (ev_ci (Int32.ofInt n))) := by
  intro ls st h ph s' hl hH hs
  obtain rfl := ev_push_inv hs
  refine ⟨(pc + 1, ls.map (ev_dL xs), .int (Int32.ofInt n) :: st.map (ev_dV xs), ph), rfl, rfl, rfl, ?_, hl, hH⟩
  show _ = ev_dV xs (0, (ev_ci (Int32.ofInt n))) :: st.map (ev_dV xs)
  rw [ev_dV0, ev_ci_eq]
theorem ev_t_lconst {n : Fin 2} : ev_SI L xs E cE cP o ini ret nL pc (.lconst n) len a b v (ev_push (Nat.add pc 1) 1 (ev_cl (Int64.ofNat n.val))) := by
  intro ls st h ph s' hl hH hs
  obtain rfl := ev_push_inv hs
  refine ⟨(pc + 1, ls.map (ev_dL xs), .long (Int64.ofNat n.val) :: st.map (ev_dV xs), ph), rfl, rfl, rfl, ?_, hl, hH⟩
  show _ = ev_dV xs (1, (ev_cl (Int64.ofNat n.val))) :: st.map (ev_dV xs)
  rw [ev_dV1, ev_cl_eq]
theorem ev_t_bipush {n : Int} : ev_SI L xs E cE cP o ini ret nL pc (.bipush n) len a b v (ev_push (Nat.add pc 2) 0 (ev_ci (Int8.ofInt n).toInt32)) := by
  intro ls st h ph s' hl hH hs
  obtain rfl := ev_push_inv hs
  refine ⟨(pc + 2, ls.map (ev_dL xs), .int (Int8.ofInt n).toInt32 :: st.map (ev_dV xs), ph), rfl, rfl, rfl, ?_, hl, hH⟩
  show _ = ev_dV xs (0, (ev_ci (Int8.ofInt n).toInt32)) :: st.map (ev_dV xs)
  rw [ev_dV0, ev_ci_eq]
theorem ev_t_sipush {n : Int} : ev_SI L xs E cE cP o ini ret nL pc (.sipush n) len a b v (ev_push (Nat.add pc 3) 0 (ev_ci (Int16.ofInt n).toInt32)) := by
  intro ls st h ph s' hl hH hs
  obtain rfl := ev_push_inv hs
  refine ⟨(pc + 3, ls.map (ev_dL xs), .int (Int16.ofInt n).toInt32 :: st.map (ev_dV xs), ph), rfl, rfl, rfl, ?_, hl, hH⟩
  show _ = ev_dV xs (0, (ev_ci (Int16.ofInt n).toInt32)) :: st.map (ev_dV xs)
  rw [ev_dV0, ev_ci_eq]
theorem ev_t_ldc {ix : Nat} (ha : (a == 0 || a == 2) = true) : ev_SI L xs E cE cP o ini ret nL pc (.ldc ix) len a b v (ev_pushV (Nat.add pc 2) v) := by
  intro ls st h ph s' hl hH hs
  obtain ⟨u, rfl, hu⟩ := ev_pushV_inv (xs := xs) hs
  have e : pm_step (pm_sX L xs) cP o ini ret pc (ls.map (ev_dL xs)) (st.map (ev_dV xs)) ph (.ldc ix) len a b v = bif a == 0 || a == 2 then pm_go (pc + 2) (ls.map (ev_dL xs)) (v :: st.map (ev_dV xs)) ph else none := rfl
  rw [ha] at e
  refine ⟨_, e, rfl, rfl, ?_, hl, hH⟩
  show v :: _ = ev_dV xs u :: st.map (ev_dV xs)
  rw [hu]
theorem ev_t_ldc_w {ix : Nat} (ha : (a == 0) = true) : ev_SI L xs E cE cP o ini ret nL pc (.ldc_w ix) len a b v (ev_pushV (Nat.add pc 3) v) := by
  intro ls st h ph s' hl hH hs
  obtain ⟨u, rfl, hu⟩ := ev_pushV_inv (xs := xs) hs
  have e : pm_step (pm_sX L xs) cP o ini ret pc (ls.map (ev_dL xs)) (st.map (ev_dV xs)) ph (.ldc_w ix) len a b v = bif a == 0 then pm_go (pc + 3) (ls.map (ev_dL xs)) (v :: st.map (ev_dV xs)) ph else none := rfl
  rw [ha] at e
  refine ⟨_, e, rfl, rfl, ?_, hl, hH⟩
  show v :: _ = ev_dV xs u :: st.map (ev_dV xs)
  rw [hu]
theorem ev_t_ldc2_w {ix : Nat} (ha : (a == 1) = true) : ev_SI L xs E cE cP o ini ret nL pc (.ldc2_w ix) len a b v (ev_pushV (Nat.add pc 3) v) := by
  intro ls st h ph s' hl hH hs
  obtain ⟨u, rfl, hu⟩ := ev_pushV_inv (xs := xs) hs
  have e : pm_step (pm_sX L xs) cP o ini ret pc (ls.map (ev_dL xs)) (st.map (ev_dV xs)) ph (.ldc2_w ix) len a b v = bif a == 1 then pm_go (pc + 3) (ls.map (ev_dL xs)) (v :: st.map (ev_dV xs)) ph else none := rfl
  rw [ha] at e
  refine ⟨_, e, rfl, rfl, ?_, hl, hH⟩
  show v :: _ = ev_dV xs u :: st.map (ev_dV xs)
  rw [hu]
theorem ev_t_getstatic {ix : Nat} : ev_SI L xs E cE cP o ini ret nL pc (.getstatic ix) len a b v (ev_pushV (Nat.add pc 3) v) := by
  intro ls st h ph s' hl hH hs
  obtain ⟨u, rfl, hu⟩ := ev_pushV_inv (xs := xs) hs
  have e : pm_step (pm_sX L xs) cP o ini ret pc (ls.map (ev_dL xs)) (st.map (ev_dV xs)) ph (.getstatic ix) len a b v = pm_go (pc + 3) (ls.map (ev_dL xs)) (v :: st.map (ev_dV xs)) ph := rfl
  refine ⟨_, e, rfl, rfl, ?_, hl, hH⟩
  show v :: _ = ev_dV xs u :: st.map (ev_dV xs)
  rw [hu]
theorem ev_load_inv {n k κ : Nat} {ls st : List ev_V} {h : ev_H} {s' : ev_S} (hs : ev_load n k κ cE E ls st h = some (.inl s')) : (ls.getD k (3, 0)).1 % 4 = κ ∧ s' = (n, ls, ls.getD k (3, 0) :: st, h) := by
  have e : ev_load n k κ cE E ls st h = cond (Nat.beq ((ev_nth (3, 0) ls k).1 % 4) κ) (ev_go n ls (((ev_nth (3, 0) ls k).1, (ev_nth (3, 0) ls k).2) :: st) h) none := rfl
  rw [e, ev_nth_eq] at hs
  obtain ⟨h1, h2⟩ := ev_c hs
  exact ⟨ev_be h1, ev_go_inv h2⟩
theorem ev_t_iload {k : Nat} : ev_SI L xs E cE cP o ini ret nL pc (.iload k) len a b v (ev_load (Nat.add pc 2) k 0) := by
  intro ls st h ph s' hl hH hs
  obtain ⟨hk, rfl⟩ := ev_load_inv hs
  generalize hw : ls.getD k (3, 0) = w at hk
  refine ⟨(pc + 2, ls.map (ev_dL xs), ev_dV xs w :: st.map (ev_dV xs), ph), ?_, rfl, rfl, rfl, hl, hH⟩
  show pm_ldi (pc + 2) (ls.map (ev_dL xs)) (st.map (ev_dV xs)) ph k = _
  unfold pm_ldi
  rw [ev_ld, hw, ev_dLs (by omega)]
  obtain ⟨t, p⟩ := w
  have hk : t % 4 = 0 := hk
  · rw [ev_dVi hk]
    rfl
theorem ev_t_iload_n {k : Fin 4} : ev_SI L xs E cE cP o ini ret nL pc (.iload_n k) len a b v (ev_load (Nat.add pc 1) k.val 0) := by
  intro ls st h ph s' hl hH hs
  obtain ⟨hk, rfl⟩ := ev_load_inv hs
  generalize hw : ls.getD k.val (3, 0) = w at hk
  refine ⟨(pc + 1, ls.map (ev_dL xs), ev_dV xs w :: st.map (ev_dV xs), ph), ?_, rfl, rfl, rfl, hl, hH⟩
  show pm_ldi (pc + 1) (ls.map (ev_dL xs)) (st.map (ev_dV xs)) ph k.val = _
  unfold pm_ldi
  rw [ev_ld, hw, ev_dLs (by omega)]
  obtain ⟨t, p⟩ := w
  have hk : t % 4 = 0 := hk
  · rw [ev_dVi hk]
    rfl
theorem ev_t_lload {k : Nat} : ev_SI L xs E cE cP o ini ret nL pc (.lload k) len a b v (ev_load (Nat.add pc 2) k 1) := by
  intro ls st h ph s' hl hH hs
  obtain ⟨hk, rfl⟩ := ev_load_inv hs
  generalize hw : ls.getD k (3, 0) = w at hk
  refine ⟨(pc + 2, ls.map (ev_dL xs), ev_dV xs w :: st.map (ev_dV xs), ph), ?_, rfl, rfl, rfl, hl, hH⟩
  show pm_ldl (pc + 2) (ls.map (ev_dL xs)) (st.map (ev_dV xs)) ph k = _
  unfold pm_ldl
  rw [ev_ld, hw, ev_dLs (by omega)]
  obtain ⟨t, p⟩ := w
  have hk : t % 4 = 1 := hk
  · rw [ev_dVl hk]
    rfl
theorem ev_t_lload_n {k : Fin 4} : ev_SI L xs E cE cP o ini ret nL pc (.lload_n k) len a b v (ev_load (Nat.add pc 1) k.val 1) := by
  intro ls st h ph s' hl hH hs
  obtain ⟨hk, rfl⟩ := ev_load_inv hs
  generalize hw : ls.getD k.val (3, 0) = w at hk
  refine ⟨(pc + 1, ls.map (ev_dL xs), ev_dV xs w :: st.map (ev_dV xs), ph), ?_, rfl, rfl, rfl, hl, hH⟩
  show pm_ldl (pc + 1) (ls.map (ev_dL xs)) (st.map (ev_dV xs)) ph k.val = _
  unfold pm_ldl
  rw [ev_ld, hw, ev_dLs (by omega)]
  obtain ⟨t, p⟩ := w
  have hk : t % 4 = 1 := hk
  · rw [ev_dVl hk]
    rfl
theorem ev_t_aload {k : Nat} : ev_SI L xs E cE cP o ini ret nL pc (.aload k) len a b v (ev_load (Nat.add pc 2) k 2) := by
  intro ls st h ph s' hl hH hs
  obtain ⟨hk, rfl⟩ := ev_load_inv hs
  generalize hw : ls.getD k (3, 0) = w at hk
  refine ⟨(pc + 2, ls.map (ev_dL xs), ev_dV xs w :: st.map (ev_dV xs), ph), ?_, rfl, rfl, rfl, hl, hH⟩
  show pm_lda (pc + 2) (ls.map (ev_dL xs)) (st.map (ev_dV xs)) ph k = _
  unfold pm_lda
  rw [ev_ld, hw, ev_dLs (by omega)]
  obtain ⟨t, p⟩ := w
  have hk : t % 4 = 2 := hk
  · show (bif pm_isR (ev_dV xs (t, p)) then _ else none) = _
    rw [ev_dVr hk]
    rfl
theorem ev_t_aload_n {k : Fin 4} : ev_SI L xs E cE cP o ini ret nL pc (.aload_n k) len a b v (ev_load (Nat.add pc 1) k.val 2) := by
  intro ls st h ph s' hl hH hs
  obtain ⟨hk, rfl⟩ := ev_load_inv hs
  generalize hw : ls.getD k.val (3, 0) = w at hk
  refine ⟨(pc + 1, ls.map (ev_dL xs), ev_dV xs w :: st.map (ev_dV xs), ph), ?_, rfl, rfl, rfl, hl, hH⟩
  show pm_lda (pc + 1) (ls.map (ev_dL xs)) (st.map (ev_dV xs)) ph k.val = _
  unfold pm_lda
  rw [ev_ld, hw, ev_dLs (by omega)]
  obtain ⟨t, p⟩ := w
  have hk : t % 4 = 2 := hk
  · show (bif pm_isR (ev_dV xs (t, p)) then _ else none) = _
    rw [ev_dVr hk]
    rfl
theorem ev_st_inv {n k κ : Nat} {ls st : List ev_V} {h : ev_H} {s' : ev_S} (hs : ev_st n k κ cE E ls st h = some (.inl s')) : ∃ w r, st = w :: r ∧ w.1 % 4 = κ ∧ s' = (n, (ev_clr ls k).set k w, r, h) := by
  unfold ev_st at hs
  split at hs
  · next t p r =>
    obtain ⟨h1, h2⟩ := ev_c hs
    rw [ev_clrK_eq, ev_setK_eq] at h2
    exact ⟨(t, p), r, rfl, ev_be h1, ev_go_inv h2⟩
  · cases hs
theorem ev_stl_inv {n k : Nat} {ls st : List ev_V} {h : ev_H} {s' : ev_S} (hs : ev_stl n k cE E ls st h = some (.inl s')) : ∃ w r, st = w :: r ∧ w.1 % 4 = 1 ∧ s' = (n, ((ev_clr ls k).set k w).set (k + 1) (3, 0), r, h) := by
  unfold ev_stl at hs
  split at hs
  · next t p r =>
    obtain ⟨h1, h2⟩ := ev_c hs
    rw [ev_clrK_eq, ev_setK_eq, ev_setK_eq] at h2
    exact ⟨(t, p), r, rfl, ev_be h1, ev_go_inv h2⟩
  · cases hs
theorem ev_t_istore {k : Nat} (hk : k < nL) : ev_SI L xs E cE cP o ini ret nL pc (.istore k) len a b v (ev_st (Nat.add pc 2) k 0) := by
  intro ls st h ph s' hl hH hs
  obtain ⟨⟨t, p⟩, r, rfl, hw, rfl⟩ := ev_st_inv hs
  have hw : t % 4 = 0 := hw
  have hk2 : k < (ls.map (ev_dL xs)).length := by rw [List.length_map, hl]; exact hk
  have e : pm_sti (pc + 2) (ls.map (ev_dL xs)) (ev_dV xs (t, p) :: r.map (ev_dV xs)) ph k = pm_go (pc + 2) (pm_st1 (ls.map (ev_dL xs)) k (ev_dV xs (t, p))) (r.map (ev_dV xs)) ph := by
    rw [ev_dVi hw]
    show (bif decide (k < (ls.map (ev_dL xs)).length) then _ else none) = _
    rw [decide_eq_true hk2]
    rfl
  rw [ev_st1_map (by show t % 4 ≠ 3; omega)] at e
  exact ⟨_, e, ev_mk (by rw [List.length_set, ev_clr_len]; exact hl) hH⟩
theorem ev_t_istore_n {k : Fin 4} (hk : k.val < nL) : ev_SI L xs E cE cP o ini ret nL pc (.istore_n k) len a b v (ev_st (Nat.add pc 1) k.val 0) := by
  intro ls st h ph s' hl hH hs
  obtain ⟨⟨t, p⟩, r, rfl, hw, rfl⟩ := ev_st_inv hs
  have hw : t % 4 = 0 := hw
  have hk2 : k.val < (ls.map (ev_dL xs)).length := by rw [List.length_map, hl]; exact hk
  have e : pm_sti (pc + 1) (ls.map (ev_dL xs)) (ev_dV xs (t, p) :: r.map (ev_dV xs)) ph k.val = pm_go (pc + 1) (pm_st1 (ls.map (ev_dL xs)) k.val (ev_dV xs (t, p))) (r.map (ev_dV xs)) ph := by
    rw [ev_dVi hw]
    show (bif decide (k.val < (ls.map (ev_dL xs)).length) then _ else none) = _
    rw [decide_eq_true hk2]
    rfl
  rw [ev_st1_map (by show t % 4 ≠ 3; omega)] at e
  exact ⟨_, e, ev_mk (by rw [List.length_set, ev_clr_len]; exact hl) hH⟩
theorem ev_t_astore {k : Nat} (hk : k < nL) : ev_SI L xs E cE cP o ini ret nL pc (.astore k) len a b v (ev_st (Nat.add pc 2) k 2) := by
  intro ls st h ph s' hl hH hs
  obtain ⟨⟨t, p⟩, r, rfl, hw, rfl⟩ := ev_st_inv hs
  have hw : t % 4 = 2 := hw
  have hk2 : k < (ls.map (ev_dL xs)).length := by rw [List.length_map, hl]; exact hk
  have e : pm_sta (pc + 2) (ls.map (ev_dL xs)) (ev_dV xs (t, p) :: r.map (ev_dV xs)) ph k = pm_go (pc + 2) (pm_st1 (ls.map (ev_dL xs)) k (ev_dV xs (t, p))) (r.map (ev_dV xs)) ph := by
    show (bif pm_isR (ev_dV xs (t, p)) && decide (k < (ls.map (ev_dL xs)).length) then _ else none) = _
    rw [decide_eq_true hk2, ev_dVr hw]
    rfl
  rw [ev_st1_map (by show t % 4 ≠ 3; omega)] at e
  exact ⟨_, e, ev_mk (by rw [List.length_set, ev_clr_len]; exact hl) hH⟩
theorem ev_t_astore_n {k : Fin 4} (hk : k.val < nL) : ev_SI L xs E cE cP o ini ret nL pc (.astore_n k) len a b v (ev_st (Nat.add pc 1) k.val 2) := by
  intro ls st h ph s' hl hH hs
  obtain ⟨⟨t, p⟩, r, rfl, hw, rfl⟩ := ev_st_inv hs
  have hw : t % 4 = 2 := hw
  have hk2 : k.val < (ls.map (ev_dL xs)).length := by rw [List.length_map, hl]; exact hk
  have e : pm_sta (pc + 1) (ls.map (ev_dL xs)) (ev_dV xs (t, p) :: r.map (ev_dV xs)) ph k.val = pm_go (pc + 1) (pm_st1 (ls.map (ev_dL xs)) k.val (ev_dV xs (t, p))) (r.map (ev_dV xs)) ph := by
    show (bif pm_isR (ev_dV xs (t, p)) && decide (k.val < (ls.map (ev_dL xs)).length) then _ else none) = _
    rw [decide_eq_true hk2, ev_dVr hw]
    rfl
  rw [ev_st1_map (by show t % 4 ≠ 3; omega)] at e
  exact ⟨_, e, ev_mk (by rw [List.length_set, ev_clr_len]; exact hl) hH⟩
theorem ev_t_lstore {k : Nat} (hk : k + 1 < nL) : ev_SI L xs E cE cP o ini ret nL pc (.lstore k) len a b v (ev_stl (Nat.add pc 2) k) := by
  intro ls st h ph s' hl hH hs
  obtain ⟨⟨t, p⟩, r, rfl, hw, rfl⟩ := ev_stl_inv hs
  have hw : t % 4 = 1 := hw
  have hk2 : k + 1 < (ls.map (ev_dL xs)).length := by rw [List.length_map, hl]; exact hk
  have e : pm_stl (pc + 2) (ls.map (ev_dL xs)) (ev_dV xs (t, p) :: r.map (ev_dV xs)) ph k = pm_go (pc + 2) (pm_st2 (ls.map (ev_dL xs)) k (ev_dV xs (t, p))) (r.map (ev_dV xs)) ph := by
    rw [ev_dVl hw]
    show (bif decide (k + 1 < (ls.map (ev_dL xs)).length) then _ else none) = _
    rw [decide_eq_true hk2]
    rfl
  have e2 : pm_st2 (ls.map (ev_dL xs)) k (ev_dV xs (t, p)) = (((ev_clr ls k).set k (t, p)).set (k + 1) (3, 0)).map (ev_dL xs) := by
    unfold pm_st2
    rw [ev_clr_map, List.map_set, List.map_set, ev_dLs (w := (t, p)) (by show t % 4 ≠ 3; omega)]
    rfl
  rw [e2] at e
  exact ⟨_, e, ev_mk (by rw [List.length_set, List.length_set, ev_clr_len]; exact hl) hH⟩
theorem ev_t_lstore_n {k : Fin 4} (hk : k.val + 1 < nL) : ev_SI L xs E cE cP o ini ret nL pc (.lstore_n k) len a b v (ev_stl (Nat.add pc 1) k.val) := by
  intro ls st h ph s' hl hH hs
  obtain ⟨⟨t, p⟩, r, rfl, hw, rfl⟩ := ev_stl_inv hs
  have hw : t % 4 = 1 := hw
  have hk2 : k.val + 1 < (ls.map (ev_dL xs)).length := by rw [List.length_map, hl]; exact hk
  have e : pm_stl (pc + 1) (ls.map (ev_dL xs)) (ev_dV xs (t, p) :: r.map (ev_dV xs)) ph k.val = pm_go (pc + 1) (pm_st2 (ls.map (ev_dL xs)) k.val (ev_dV xs (t, p))) (r.map (ev_dV xs)) ph := by
    rw [ev_dVl hw]
    show (bif decide (k.val + 1 < (ls.map (ev_dL xs)).length) then _ else none) = _
    rw [decide_eq_true hk2]
    rfl
  have e2 : pm_st2 (ls.map (ev_dL xs)) k.val (ev_dV xs (t, p)) = (((ev_clr ls k.val).set k.val (t, p)).set (k.val + 1) (3, 0)).map (ev_dL xs) := by
    unfold pm_st2
    rw [ev_clr_map, List.map_set, List.map_set, ev_dLs (w := (t, p)) (by show t % 4 ≠ 3; omega)]
    rfl
  rw [e2] at e
  exact ⟨_, e, ev_mk (by rw [List.length_set, List.length_set, ev_clr_len]; exact hl) hH⟩
theorem ev_t_iinc {k : Nat} {n : Int} (hk : k < nL) : ev_SI L xs E cE cP o ini ret nL pc (.iinc k n) len a b v (ev_inc (Nat.add pc 3) k (ev_ci (Int32.ofInt n))) := by
  intro ls st h ph s' hl hH hs
  have e : ev_inc (Nat.add pc 3) k (ev_ci (Int32.ofInt n)) cE E ls st h = cond (Nat.beq (ev_nth (3, 0) ls k).1 0) (ev_fK (ev_add (ev_nth (3, 0) ls k).2 (ev_ci (Int32.ofInt n))) (fun z => ev_clrK ls k (fun l1 => ev_setK l1 k (0, z) (fun l2 => ev_go (Nat.add pc 3) l2 st h)))) none := rfl
  rw [e, ev_nth_eq, ev_fK_eq, ev_clrK_eq, ev_setK_eq] at hs
  obtain ⟨h1, h2⟩ := ev_c hs
  obtain rfl := ev_go_inv h2
  have h1 := ev_be h1
  generalize hw : ls.getD k (3, 0) = w at h1
  obtain ⟨t, p⟩ := w
  have h1 : t = 0 := h1
  subst h1
  have e2 : pm_step (pm_sX L xs) cP o ini ret pc (ls.map (ev_dL xs)) (st.map (ev_dV xs)) ph (.iinc k n) len a b v = pm_go (pc + 3) (pm_st1 (ls.map (ev_dL xs)) k (.int (Int32.ofNat p + Int32.ofInt n))) (st.map (ev_dV xs)) ph := by
    show (match pm_ld (ls.map (ev_dL xs)) k with
      | some (.int x) => pm_go (pc + 3) (pm_st1 (ls.map (ev_dL xs)) k (.int (x + Int32.ofInt n))) (st.map (ev_dV xs)) ph
      | _ => none) = _
    rw [ev_ld, hw]
    rfl
  have e3 : Value.int (Int32.ofNat p + Int32.ofInt n) = ev_dV xs (0, ev_add p (ev_ci (Int32.ofInt n))) := by
    rw [ev_dV0, ev_add_eq, ev_ci_eq]
  rw [e3, ev_st1_map (show 0 % 4 ≠ 3 by decide)] at e2
  exact ⟨_, e2, ev_mk (by rw [List.length_set, ev_clr_len]; exact hl) hH⟩
theorem ev_t_pop : ev_SI L xs E cE cP o ini ret nL pc .pop len a b v (ev_pop (Nat.add pc 1)) := by
  intro ls st h ph s' hl hH hs
  unfold ev_pop at hs
  split at hs
  · next t p r =>
    obtain ⟨h1, h2⟩ := ev_c hs
    obtain rfl := ev_go_inv h2
    have e : pm_step (pm_sX L xs) cP o ini ret pc (ls.map (ev_dL xs)) (((t, p) :: r).map (ev_dV xs)) ph .pop len a b v = (bif pm_cat1 (ev_dV xs (t, p)) then pm_go (pc + 1) (ls.map (ev_dL xs)) (r.map (ev_dV xs)) ph else none) := rfl
    rw [ev_dVc (ev_be h1)] at e
    exact ⟨_, e, ev_mk hl hH⟩
  · cases hs
theorem ev_t_dup : ev_SI L xs E cE cP o ini ret nL pc .dup len a b v (ev_dup (Nat.add pc 1)) := by
  intro ls st h ph s' hl hH hs
  unfold ev_dup at hs
  split at hs
  · next t p r =>
    obtain ⟨h1, h2⟩ := ev_c hs
    obtain rfl := ev_go_inv h2
    have e : pm_step (pm_sX L xs) cP o ini ret pc (ls.map (ev_dL xs)) (((t, p) :: r).map (ev_dV xs)) ph .dup len a b v = (bif pm_cat1 (ev_dV xs (t, p)) then pm_go (pc + 1) (ls.map (ev_dL xs)) (((t, p) :: (t, p) :: r).map (ev_dV xs)) ph else none) := rfl
    rw [ev_dVc (ev_be h1)] at e
    exact ⟨_, e, ev_mk hl hH⟩
  · cases hs
theorem ev_t_dup2 : ev_SI L xs E cE cP o ini ret nL pc .dup2 len a b v (ev_dup2 (Nat.add pc 1)) := by
  intro ls st h ph s' hl hH hs
  unfold ev_dup2 at hs
  split at hs
  · next t p u q r =>
    obtain ⟨h1, h2⟩ := ev_c hs
    obtain ⟨h3, h4⟩ := ev_c h2
    obtain rfl := ev_go_inv h4
    have e : pm_step (pm_sX L xs) cP o ini ret pc (ls.map (ev_dL xs)) (((t, p) :: (u, q) :: r).map (ev_dV xs)) ph .dup2 len a b v = (bif pm_cat1 (ev_dV xs (t, p)) && pm_cat1 (ev_dV xs (u, q)) then pm_go (pc + 1) (ls.map (ev_dL xs)) (((t, p) :: (u, q) :: (t, p) :: (u, q) :: r).map (ev_dV xs)) ph else none) := rfl
    rw [ev_dVc (ev_be h1), ev_dVc (ev_be h3)] at e
    exact ⟨_, e, ev_mk hl hH⟩
  · cases hs
theorem ev_i2_inv {n : Nat} {f : Nat → Nat → Nat} {ls st : List ev_V} {h : ev_H} {s' : ev_S} (hs : ev_i2 n f cE E ls st h = some (.inl s')) : ∃ x y r, st = (0, y) :: (0, x) :: r ∧ s' = (n, ls, (0, f x y) :: r, h) := by
  unfold ev_i2 at hs
  split at hs
  · next ty y tx x r =>
    obtain ⟨h1, h2⟩ := ev_c hs
    obtain ⟨h3, h4⟩ := ev_c h2
    rw [ev_fK_eq] at h4
    obtain rfl := ev_be h1
    obtain rfl := ev_be h3
    exact ⟨x, y, r, rfl, ev_go_inv h4⟩
  · cases hs
theorem ev_l2_inv {n : Nat} {f : Nat → Nat → Nat} {ls st : List ev_V} {h : ev_H} {s' : ev_S} (hs : ev_l2 n f cE E ls st h = some (.inl s')) : ∃ x y r, st = (1, y) :: (1, x) :: r ∧ s' = (n, ls, (1, f x y) :: r, h) := by
  unfold ev_l2 at hs
  split at hs
  · next ty y tx x r =>
    obtain ⟨h1, h2⟩ := ev_c hs
    obtain ⟨h3, h4⟩ := ev_c h2
    rw [ev_fK_eq] at h4
    obtain rfl := ev_be h1
    obtain rfl := ev_be h3
    exact ⟨x, y, r, rfl, ev_go_inv h4⟩
  · cases hs
theorem ev_t_iadd : ev_SI L xs E cE cP o ini ret nL pc .iadd len a b v (ev_i2 (Nat.add pc 1) ev_add) := by
  intro ls st h ph s' hl hH hs
  obtain ⟨x, y, r, rfl, rfl⟩ := ev_i2_inv hs
  refine ⟨(pc + 1, ls.map (ev_dL xs), .int ((fun x y : Int32 => x + y) (Int32.ofNat x) (Int32.ofNat y)) :: r.map (ev_dV xs), ph), rfl, rfl, rfl, ?_, hl, hH⟩
  show _ = ev_dV xs (0, ev_add x y) :: r.map (ev_dV xs)
  rw [ev_dV0, ev_add_eq]
theorem ev_t_imul : ev_SI L xs E cE cP o ini ret nL pc .imul len a b v (ev_i2 (Nat.add pc 1) ev_mul) := by
  intro ls st h ph s' hl hH hs
  obtain ⟨x, y, r, rfl, rfl⟩ := ev_i2_inv hs
  refine ⟨(pc + 1, ls.map (ev_dL xs), .int ((fun x y : Int32 => x * y) (Int32.ofNat x) (Int32.ofNat y)) :: r.map (ev_dV xs), ph), rfl, rfl, rfl, ?_, hl, hH⟩
  show _ = ev_dV xs (0, ev_mul x y) :: r.map (ev_dV xs)
  rw [ev_dV0, ev_mul_eq]
theorem ev_t_ior : ev_SI L xs E cE cP o ini ret nL pc .ior len a b v (ev_i2 (Nat.add pc 1) Nat.lor) := by
  intro ls st h ph s' hl hH hs
  obtain ⟨x, y, r, rfl, rfl⟩ := ev_i2_inv hs
  refine ⟨(pc + 1, ls.map (ev_dL xs), .int ((fun x y : Int32 => x ||| y) (Int32.ofNat x) (Int32.ofNat y)) :: r.map (ev_dV xs), ph), rfl, rfl, rfl, ?_, hl, hH⟩
  show _ = ev_dV xs (0, Nat.lor x y) :: r.map (ev_dV xs)
  rw [ev_dV0, ev_lor_eq]
theorem ev_t_ixor : ev_SI L xs E cE cP o ini ret nL pc .ixor len a b v (ev_i2 (Nat.add pc 1) (ev_op (fun x y => x ^^^ y))) := by
  intro ls st h ph s' hl hH hs
  obtain ⟨x, y, r, rfl, rfl⟩ := ev_i2_inv hs
  refine ⟨(pc + 1, ls.map (ev_dL xs), .int ((fun x y : Int32 => x ^^^ y) (Int32.ofNat x) (Int32.ofNat y)) :: r.map (ev_dV xs), ph), rfl, rfl, rfl, ?_, hl, hH⟩
  show _ = ev_dV xs (0, (ev_op (fun x y => x ^^^ y)) x y) :: r.map (ev_dV xs)
  rw [ev_dV0, show Int32.ofNat ((ev_op (fun x y => x ^^^ y)) x y) = _ from ev_ci_eq _]
theorem ev_t_ishl : ev_SI L xs E cE cP o ini ret nL pc .ishl len a b v (ev_i2 (Nat.add pc 1) (ev_op (fun x y => x <<< (y &&& 31)))) := by
  intro ls st h ph s' hl hH hs
  obtain ⟨x, y, r, rfl, rfl⟩ := ev_i2_inv hs
  refine ⟨(pc + 1, ls.map (ev_dL xs), .int ((fun x y : Int32 => x <<< (y &&& 31)) (Int32.ofNat x) (Int32.ofNat y)) :: r.map (ev_dV xs), ph), rfl, rfl, rfl, ?_, hl, hH⟩
  show _ = ev_dV xs (0, (ev_op (fun x y => x <<< (y &&& 31))) x y) :: r.map (ev_dV xs)
  rw [ev_dV0, show Int32.ofNat ((ev_op (fun x y => x <<< (y &&& 31))) x y) = _ from ev_ci_eq _]
theorem ev_t_iushr : ev_SI L xs E cE cP o ini ret nL pc .iushr len a b v (ev_i2 (Nat.add pc 1) ev_ushr) := by
  intro ls st h ph s' hl hH hs
  obtain ⟨x, y, r, rfl, rfl⟩ := ev_i2_inv hs
  refine ⟨(pc + 1, ls.map (ev_dL xs), .int ((fun x y : Int32 => (x.toUInt32 >>> (y.toUInt32 &&& Int32.toUInt32 31)).toInt32) (Int32.ofNat x) (Int32.ofNat y)) :: r.map (ev_dV xs), ph), rfl, rfl, rfl, ?_, hl, hH⟩
  show _ = ev_dV xs (0, ev_ushr x y) :: r.map (ev_dV xs)
  rw [ev_dV0, ev_ushr_eq]
theorem ev_t_ladd : ev_SI L xs E cE cP o ini ret nL pc .ladd len a b v (ev_l2 (Nat.add pc 1) (ev_op8 (fun x y => x + y))) := by
  intro ls st h ph s' hl hH hs
  obtain ⟨x, y, r, rfl, rfl⟩ := ev_l2_inv hs
  refine ⟨(pc + 1, ls.map (ev_dL xs), .long ((fun x y => x + y) (Int64.ofNat x) (Int64.ofNat y)) :: r.map (ev_dV xs), ph), rfl, rfl, rfl, ?_, hl, hH⟩
  show _ = ev_dV xs (1, (ev_op8 (fun x y => x + y)) x y) :: r.map (ev_dV xs)
  rw [ev_dV1, show Int64.ofNat ((ev_op8 (fun x y => x + y)) x y) = _ from ev_cl_eq _]
theorem ev_t_lsub : ev_SI L xs E cE cP o ini ret nL pc .lsub len a b v (ev_l2 (Nat.add pc 1) (ev_op8 (fun x y => x - y))) := by
  intro ls st h ph s' hl hH hs
  obtain ⟨x, y, r, rfl, rfl⟩ := ev_l2_inv hs
  refine ⟨(pc + 1, ls.map (ev_dL xs), .long ((fun x y => x - y) (Int64.ofNat x) (Int64.ofNat y)) :: r.map (ev_dV xs), ph), rfl, rfl, rfl, ?_, hl, hH⟩
  show _ = ev_dV xs (1, (ev_op8 (fun x y => x - y)) x y) :: r.map (ev_dV xs)
  rw [ev_dV1, show Int64.ofNat ((ev_op8 (fun x y => x - y)) x y) = _ from ev_cl_eq _]
theorem ev_t_lmul : ev_SI L xs E cE cP o ini ret nL pc .lmul len a b v (ev_l2 (Nat.add pc 1) (ev_op8 (fun x y => x * y))) := by
  intro ls st h ph s' hl hH hs
  obtain ⟨x, y, r, rfl, rfl⟩ := ev_l2_inv hs
  refine ⟨(pc + 1, ls.map (ev_dL xs), .long ((fun x y => x * y) (Int64.ofNat x) (Int64.ofNat y)) :: r.map (ev_dV xs), ph), rfl, rfl, rfl, ?_, hl, hH⟩
  show _ = ev_dV xs (1, (ev_op8 (fun x y => x * y)) x y) :: r.map (ev_dV xs)
  rw [ev_dV1, show Int64.ofNat ((ev_op8 (fun x y => x * y)) x y) = _ from ev_cl_eq _]
theorem ev_t_idiv : ev_SI L xs E cE cP o ini ret nL pc .idiv len a b v (ev_d2 (Nat.add pc 1) (ev_op (fun x y => x / y))) := by
  intro ls st h ph s' hl hH hs
  unfold ev_d2 at hs
  split at hs
  · next ty y tx x r =>
    obtain ⟨h1, h2⟩ := ev_c hs
    obtain ⟨h3, h4⟩ := ev_c h2
    obtain rfl := ev_be h1
    obtain rfl := ev_be h3
    cases hy : Nat.beq (Nat.mod y 4294967296) 0 with
    | true => rw [hy] at h4; cases h4
    | false =>
      rw [hy] at h4
      replace h4 : ev_fK (ev_op (fun x y => x / y) x y) (fun z => ev_go (Nat.add pc 1) ls ((0, z) :: r) h) = some (.inl s') := h4
      rw [ev_fK_eq] at h4
      obtain rfl := ev_go_inv h4
      have hy0 : ¬ (Int32.ofNat y = 0) := by
        intro g
        have : (Int32.ofNat y).toInt = 0 := by rw [g]; rfl
        rw [ev_toI] at this
        have g2 : y % 4294967296 = 0 := by
          have : (((y + 2147483648) % 4294967296 : Nat) : Int) - 2147483648 = 0 := this
          omega
        have g3 : Nat.beq (Nat.mod y 4294967296) 0 = true := ev_bt g2
        rw [g3] at hy
        cases hy
      have e : pm_step (pm_sX L xs) cP o ini ret pc (ls.map (ev_dL xs)) (((0, y) :: (0, x) :: r).map (ev_dV xs)) ph .idiv len a b v = (bif decide (Int32.ofNat y = 0) then none else pm_go (pc + 1) (ls.map (ev_dL xs)) (.int ((fun x y : Int32 => x / y) (Int32.ofNat x) (Int32.ofNat y)) :: r.map (ev_dV xs)) ph) := rfl
      rw [decide_eq_false hy0] at e
      refine ⟨_, e, rfl, rfl, ?_, hl, hH⟩
      show _ = ev_dV xs (0, ev_op (fun x y => x / y) x y) :: r.map (ev_dV xs)
      rw [ev_dV0, show Int32.ofNat (ev_op (fun x y => x / y) x y) = _ from ev_ci_eq _]
  · cases hs
theorem ev_t_irem : ev_SI L xs E cE cP o ini ret nL pc .irem len a b v (ev_d2 (Nat.add pc 1) (ev_op (fun x y => x - x / y * y))) := by
  intro ls st h ph s' hl hH hs
  unfold ev_d2 at hs
  split at hs
  · next ty y tx x r =>
    obtain ⟨h1, h2⟩ := ev_c hs
    obtain ⟨h3, h4⟩ := ev_c h2
    obtain rfl := ev_be h1
    obtain rfl := ev_be h3
    cases hy : Nat.beq (Nat.mod y 4294967296) 0 with
    | true => rw [hy] at h4; cases h4
    | false =>
      rw [hy] at h4
      replace h4 : ev_fK (ev_op (fun x y => x - x / y * y) x y) (fun z => ev_go (Nat.add pc 1) ls ((0, z) :: r) h) = some (.inl s') := h4
      rw [ev_fK_eq] at h4
      obtain rfl := ev_go_inv h4
      have hy0 : ¬ (Int32.ofNat y = 0) := by
        intro g
        have : (Int32.ofNat y).toInt = 0 := by rw [g]; rfl
        rw [ev_toI] at this
        have g2 : y % 4294967296 = 0 := by
          have : (((y + 2147483648) % 4294967296 : Nat) : Int) - 2147483648 = 0 := this
          omega
        have g3 : Nat.beq (Nat.mod y 4294967296) 0 = true := ev_bt g2
        rw [g3] at hy
        cases hy
      have e : pm_step (pm_sX L xs) cP o ini ret pc (ls.map (ev_dL xs)) (((0, y) :: (0, x) :: r).map (ev_dV xs)) ph .irem len a b v = (bif decide (Int32.ofNat y = 0) then none else pm_go (pc + 1) (ls.map (ev_dL xs)) (.int ((fun x y : Int32 => x - x / y * y) (Int32.ofNat x) (Int32.ofNat y)) :: r.map (ev_dV xs)) ph) := rfl
      rw [decide_eq_false hy0] at e
      refine ⟨_, e, rfl, rfl, ?_, hl, hH⟩
      show _ = ev_dV xs (0, ev_op (fun x y => x - x / y * y) x y) :: r.map (ev_dV xs)
      rw [ev_dV0, show Int32.ofNat (ev_op (fun x y => x - x / y * y) x y) = _ from ev_ci_eq _]
  · cases hs
theorem ev_t_ineg : ev_SI L xs E cE cP o ini ret nL pc .ineg len a b v (ev_i1 (Nat.add pc 1) 0 (fun x => ev_ci (-(Int32.ofNat x)))) := by
  intro ls st h ph s' hl hH hs
  unfold ev_i1 at hs
  split at hs
  · next tx x r =>
    obtain ⟨h1, h2⟩ := ev_c hs
    rw [ev_fK_eq] at h2
    obtain rfl := ev_be h1
    obtain rfl := ev_go_inv h2
    refine ⟨(pc + 1, ls.map (ev_dL xs), .int (-(Int32.ofNat x)) :: r.map (ev_dV xs), ph), rfl, rfl, rfl, ?_, hl, hH⟩
    show _ = ev_dV xs (0, ev_ci (-(Int32.ofNat x))) :: r.map (ev_dV xs)
    rw [ev_dV0, ev_ci_eq]
  · cases hs
theorem ev_t_i2c : ev_SI L xs E cE cP o ini ret nL pc .i2c len a b v (ev_i1 (Nat.add pc 1) 0 (fun x => ev_ci ((Int32.ofNat x).toUInt32 % 65536).toInt32)) := by
  intro ls st h ph s' hl hH hs
  unfold ev_i1 at hs
  split at hs
  · next tx x r =>
    obtain ⟨h1, h2⟩ := ev_c hs
    rw [ev_fK_eq] at h2
    obtain rfl := ev_be h1
    obtain rfl := ev_go_inv h2
    refine ⟨(pc + 1, ls.map (ev_dL xs), .int (((Int32.ofNat x).toUInt32 % 65536).toInt32) :: r.map (ev_dV xs), ph), rfl, rfl, rfl, ?_, hl, hH⟩
    show _ = ev_dV xs (0, ev_ci (((Int32.ofNat x).toUInt32 % 65536).toInt32)) :: r.map (ev_dV xs)
    rw [ev_dV0, ev_ci_eq]
  · cases hs
theorem ev_t_l2i : ev_SI L xs E cE cP o ini ret nL pc .l2i len a b v (ev_l1 (Nat.add pc 1) (fun x => ev_ci (Int64.ofNat x).toInt32)) := by
  intro ls st h ph s' hl hH hs
  unfold ev_l1 at hs
  split at hs
  · next tx x r =>
    obtain ⟨h1, h2⟩ := ev_c hs
    rw [ev_fK_eq] at h2
    obtain rfl := ev_be h1
    obtain rfl := ev_go_inv h2
    refine ⟨(pc + 1, ls.map (ev_dL xs), .int (Int64.ofNat x).toInt32 :: r.map (ev_dV xs), ph), rfl, rfl, rfl, ?_, hl, hH⟩
    show _ = ev_dV xs (0, ev_ci (Int64.ofNat x).toInt32) :: r.map (ev_dV xs)
    rw [ev_dV0, ev_ci_eq]
  · cases hs
theorem ev_t_i2l : ev_SI L xs E cE cP o ini ret nL pc .i2l len a b v (ev_i2l (Nat.add pc 1)) := by
  intro ls st h ph s' hl hH hs
  unfold ev_i2l at hs
  split at hs
  · next tx x r =>
    cases h0 : Nat.beq tx 0 with
    | true =>
      rw [h0] at hs
      replace hs : ev_fK (ev_cl (Int32.ofNat x).toInt64) (fun z => ev_go (Nat.add pc 1) ls ((1, z) :: r) h) = some (.inl s') := hs
      rw [ev_fK_eq] at hs
      obtain rfl := ev_be h0
      obtain rfl := ev_go_inv hs
      refine ⟨(pc + 1, ls.map (ev_dL xs), .long (Int32.ofNat x).toInt64 :: r.map (ev_dV xs), ph), rfl, rfl, rfl, ?_, hl, hH⟩
      show _ = ev_dV xs (1, ev_cl (Int32.ofNat x).toInt64) :: r.map (ev_dV xs)
      rw [ev_dV1, ev_cl_eq]
    | false =>
      rw [h0] at hs
      obtain ⟨h1, h2⟩ := ev_c (show cond (Nat.beq tx 4) (ev_go (Nat.add pc 1) ls ((5, x) :: r) h) none = some (.inl s') from hs)
      obtain rfl := ev_be h1
      obtain rfl := ev_go_inv h2
      rw [List.map_cons, ev_dV4]
      refine ⟨(pc + 1, ls.map (ev_dL xs), .long (ev_dI xs x).toInt64 :: r.map (ev_dV xs), ph), rfl, rfl, rfl, ?_, hl, hH⟩
      show _ = ev_dV xs (5, x) :: r.map (ev_dV xs)
      rw [ev_dV5]
  · cases hs
theorem ev_dI_shr {x y : Nat} (hx : x < 8) (hy : y % 8 = 0) (hy2 : y ≤ 24) : ev_dI xs (8 + y + x) = xs x >>> (Int32.ofNat y &&& 31) := by
  unfold ev_dI
  rw [if_neg (by omega), if_pos (by omega), show (8 + y + x) % 8 = x by omega, show (8 + y + x - 8) / 8 * 8 = y by omega]
theorem ev_t_ishr : ev_SI L xs E cE cP o ini ret nL pc .ishr len a b v (ev_shr (Nat.add pc 1)) := by
  intro ls st h ph s' hl hH hs
  unfold ev_shr at hs
  split at hs
  · next ty y tx x r =>
    obtain ⟨h1, h2⟩ := ev_c hs
    obtain rfl := ev_be h1
    cases h0 : Nat.beq tx 0 with
    | true =>
      rw [h0] at h2
      replace h2 : ev_fK (ev_op (fun x y => x >>> (y &&& 31)) x y) (fun z => ev_go (Nat.add pc 1) ls ((0, z) :: r) h) = some (.inl s') := h2
      rw [ev_fK_eq] at h2
      obtain rfl := ev_be h0
      obtain rfl := ev_go_inv h2
      refine ⟨(pc + 1, ls.map (ev_dL xs), .int ((fun x y : Int32 => x >>> (y &&& 31)) (Int32.ofNat x) (Int32.ofNat y)) :: r.map (ev_dV xs), ph), rfl, rfl, rfl, ?_, hl, hH⟩
      show _ = ev_dV xs (0, ev_op (fun x y => x >>> (y &&& 31)) x y) :: r.map (ev_dV xs)
      rw [ev_dV0, show Int32.ofNat (ev_op (fun x y => x >>> (y &&& 31)) x y) = _ from ev_ci_eq _]
    | false =>
      rw [h0] at h2
      obtain ⟨g1, h3⟩ := ev_c (show cond (Nat.beq tx 4) _ none = some (.inl s') from h2)
      obtain ⟨g2, h4⟩ := ev_c h3
      obtain ⟨g3, h5⟩ := ev_c h4
      obtain ⟨g4, h6⟩ := ev_c h5
      rw [ev_fK_eq] at h6
      obtain rfl := ev_be g1
      obtain rfl := ev_go_inv h6
      have hx := ev_lt g2
      rw [List.map_cons, List.map_cons, ev_dV4]
      refine ⟨(pc + 1, ls.map (ev_dL xs), .int (ev_dI xs x >>> (Int32.ofNat y &&& 31)) :: r.map (ev_dV xs), ph), rfl, rfl, rfl, ?_, hl, hH⟩
      show _ = ev_dV xs (4, 8 + y + x) :: r.map (ev_dV xs)
      rw [ev_dV4, ev_dI_shr hx (ev_be g3) (ev_le g4)]
      have : ev_dI xs x = xs x := by unfold ev_dI; rw [if_pos hx]
      rw [this]
  · cases hs
theorem ev_t_isub : ev_SI L xs E cE cP o ini ret nL pc .isub len a b v (ev_sbr (Nat.add pc 1)) := by
  intro ls st h ph s' hl hH hs
  unfold ev_sbr at hs
  split at hs
  · next ty y tx x r =>
    obtain ⟨h1, h2⟩ := ev_c hs
    obtain rfl := ev_be h1
    cases h0 : Nat.beq tx 0 with
    | true =>
      rw [h0] at h2
      replace h2 : ev_fK (ev_sub x y) (fun z => ev_go (Nat.add pc 1) ls ((0, z) :: r) h) = some (.inl s') := h2
      rw [ev_fK_eq] at h2
      obtain rfl := ev_be h0
      obtain rfl := ev_go_inv h2
      refine ⟨(pc + 1, ls.map (ev_dL xs), .int ((fun x y : Int32 => x - y) (Int32.ofNat x) (Int32.ofNat y)) :: r.map (ev_dV xs), ph), rfl, rfl, rfl, ?_, hl, hH⟩
      show _ = ev_dV xs (0, ev_sub x y) :: r.map (ev_dV xs)
      rw [ev_dV0, ev_sub_eq]
    | false =>
      rw [h0] at h2
      obtain ⟨g1, h3⟩ := ev_c (show cond (Nat.beq tx 4) _ none = some (.inl s') from h2)
      obtain ⟨g2, h4⟩ := ev_c h3
      obtain ⟨g3, h5⟩ := ev_c h4
      rw [ev_fK_eq] at h5
      obtain rfl := ev_be g1
      obtain rfl := ev_be g2
      obtain rfl := ev_go_inv h5
      have hx := ev_lt g3
      rw [List.map_cons, List.map_cons, ev_dV4]
      refine ⟨(pc + 1, ls.map (ev_dL xs), .int (ev_dI xs x - Int32.ofNat 2) :: r.map (ev_dV xs), ph), rfl, rfl, rfl, ?_, hl, hH⟩
      show _ = ev_dV xs (4, 72 + x) :: r.map (ev_dV xs)
      rw [ev_dV4]
      unfold ev_dI
      rw [if_pos hx, if_neg (show ¬ 72 + x < 8 by omega), if_neg (show ¬ 72 + x < 40 by omega), if_neg (show ¬ 72 + x < 72 by omega), Nat.add_sub_cancel_left]
      rfl
  · cases hs
theorem ev_t_iand (hE : ev_sat E L xs) : ev_SI L xs E cE cP o ini ret nL pc .iand len a b v (ev_and (Nat.add pc 1)) := by
  intro ls st h ph s' hl hH hs
  unfold ev_and at hs
  split at hs
  · next ty y tx x r =>
    obtain ⟨h1, h2⟩ := ev_c hs
    obtain rfl := ev_be h1
    cases h0 : Nat.beq tx 0 with
    | true =>
      rw [h0] at h2
      replace h2 : ev_fK (Nat.land x y) (fun z => ev_go (Nat.add pc 1) ls ((0, z) :: r) h) = some (.inl s') := h2
      rw [ev_fK_eq] at h2
      obtain rfl := ev_be h0
      obtain rfl := ev_go_inv h2
      refine ⟨(pc + 1, ls.map (ev_dL xs), .int ((fun x y => x &&& y) (Int32.ofNat x) (Int32.ofNat y)) :: r.map (ev_dV xs), ph), rfl, rfl, rfl, ?_, hl, hH⟩
      show _ = ev_dV xs (0, Nat.land x y) :: r.map (ev_dV xs)
      rw [ev_dV0, ev_land_eq]
    | false =>
      rw [h0] at h2
      obtain ⟨g1, h3⟩ := ev_c (show cond (Nat.beq tx 4) _ none = some (.inl s') from h2)
      obtain rfl := ev_be g1
      cases h5 : Nat.beq y 255 with
      | true =>
        rw [h5] at h3
        obtain ⟨g2, h4⟩ := ev_c (show cond (Nat.ble 8 x) _ none = some (.inl s') from h3)
        obtain ⟨g3, h6⟩ := ev_c h4
        rw [ev_fK_eq] at h6
        obtain rfl := ev_be h5
        obtain rfl := ev_go_inv h6
        have hx1 := ev_le g2
        have hx2 := ev_lt g3
        rw [List.map_cons, List.map_cons, ev_dV4]
        refine ⟨(pc + 1, ls.map (ev_dL xs), .int (ev_dI xs x &&& Int32.ofNat 255) :: r.map (ev_dV xs), ph), rfl, rfl, rfl, ?_, hl, hH⟩
        show _ = ev_dV xs (4, x + 32) :: r.map (ev_dV xs)
        rw [ev_dV4]
        unfold ev_dI
        rw [if_neg (show ¬ x < 8 by omega), if_pos hx2, if_neg (show ¬ x + 32 < 8 by omega), if_neg (show ¬ x + 32 < 40 by omega), if_pos (show x + 32 < 72 by omega), show (x + 32) % 8 = x % 8 by omega, show x + 32 - 40 = x - 8 by omega]
        rfl
      | false =>
        rw [h5] at h3
        obtain ⟨g2, h4⟩ := ev_c (show cond (Nat.beq y 63) _ none = some (.inl s') from h3)
        obtain ⟨g3, h5b⟩ := ev_c h4
        obtain ⟨g4, h6⟩ := ev_c h5b
        rw [ev_fK_eq] at h6
        obtain rfl := ev_be g2
        obtain rfl := ev_be g3
        obtain rfl := ev_go_inv h6
        rw [List.map_cons, List.map_cons, ev_dV4]
        refine ⟨(pc + 1, ls.map (ev_dL xs), .int (ev_dI xs 0 &&& Int32.ofNat 63) :: r.map (ev_dV xs), ph), rfl, rfl, rfl, ?_, hl, hH⟩
        show _ = ev_dV xs (0, E.2.1) :: r.map (ev_dV xs)
        rw [ev_dV0, ← hE.2.1 (ev_be g4)]
        rfl
  · cases hs
end EVS
