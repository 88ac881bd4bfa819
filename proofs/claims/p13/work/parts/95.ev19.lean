/-! what the evaluator does, the pure machine does: branches, fields, cells, arrays -/
section EVS2
variable {L : Nat} {xs : Nat → Int32} {E : ev_E} {cE : ev_Ca} {cP : Nat → List Value → pm_H → Option pm_R} {o : Nat} {ini : Bool} {ret : Option FieldType} {nL pc len a b : Nat} {v : Value}
theorem ev_bool {p : Prop} {c : Bool} (inst : Decidable p) (h : p ↔ c = true) : decide p = c := by
  cases c with
  | true => exact decide_eq_true (h.mpr rfl)
  | false => exact decide_eq_false (fun q => by cases h.mp q)
theorem ev_beq_iff {x y : Nat} : Nat.beq x y = true ↔ x = y := ⟨ev_be, ev_bt⟩
theorem ev_blt_iff {x y : Nat} : Nat.blt x y = true ↔ x < y := ⟨ev_lt, fun h => Nat.ble_eq_true_of_le h⟩
theorem ev_ble_iff {x y : Nat} : Nat.ble x y = true ↔ x ≤ y := ⟨ev_le, fun h => Nat.ble_eq_true_of_le h⟩
theorem ev_cmp_ok {u z : Int32} {A B : Nat} (hu : u.toInt = (A : Int) - 2147483648) (hz : z.toInt = (B : Int) - 2147483648) (c : ClassFile.Cond) : pm_cmp c u z = ev_cmp c A B := by
  have heq : u = z ↔ Nat.beq A B = true := by
    rw [ev_beq_iff, ← Int32.toInt_inj, hu, hz]
    omega
  cases c with
  | eq => exact ev_bool _ heq
  | ne =>
    show (!decide (u = z)) = (!Nat.beq A B)
    rw [ev_bool _ heq]
  | lt => exact ev_bool (c := Nat.blt A B) _ (by rw [ev_blt_iff, Int32.lt_iff_toInt_lt, hu, hz]; omega)
  | ge => exact ev_bool (c := Nat.ble B A) _ (by rw [ev_ble_iff, Int32.le_iff_toInt_le, hu, hz]; omega)
  | gt => exact ev_bool (c := Nat.blt B A) _ (by rw [ev_blt_iff, Int32.lt_iff_toInt_lt, hu, hz]; omega)
  | le => exact ev_bool (c := Nat.ble A B) _ (by rw [ev_ble_iff, Int32.le_iff_toInt_le, hu, hz]; omega)
theorem ev_cmp0 (c : ClassFile.Cond) (u : Int32) : pm_cmp0 c u = pm_cmp c u 0 := by cases c <;> rfl
theorem ev_cmpS_ok {lo hi A B : Nat} (h1 : lo ≤ A) (h2 : A ≤ hi) (c : ClassFile.Cond) : (ev_cmpS c lo hi B = 0 → ev_cmp c A B = false) ∧ (ev_cmpS c lo hi B = 1 → ev_cmp c A B = true) := by
  have hb : ∀ q : Bool, q = true ∨ q = false := fun q => by cases q <;> simp
  have nb : ∀ {x y : Nat}, x ≠ y → Nat.beq x y = false := fun h => ev_bf h
  have nl : ∀ {x y : Nat}, y ≤ x → Nat.blt x y = false := fun {x y} h => by
    rcases hb (Nat.blt x y) with q | q
    · have := ev_lt q; omega
    · exact q
  have ne : ∀ {x y : Nat}, y < x → Nat.ble x y = false := fun {x y} h => by
    rcases hb (Nat.ble x y) with q | q
    · have := ev_le q; omega
    · exact q
  unfold ev_cmpS ev_cmp
  cases c with
  | eq =>
    dsimp only
    rcases hb (Nat.blt hi B) with q | q <;> rcases hb (Nat.blt B lo) with q2 | q2 <;> rcases hb (Nat.beq lo hi) with q3 | q3 <;> rw [q, q2, q3] <;> refine ⟨fun g => ?_, fun g => ?_⟩ <;>
      first | (cases g; done) | (have := ev_lt q; exact nb (by omega)) | (have := ev_lt q2; exact nb (by omega)) | (have := ev_nlt q; have := ev_nlt q2; have := ev_be q3; exact ev_bt (by omega))
  | ne =>
    dsimp only
    rcases hb (Nat.blt hi B) with q | q <;> rcases hb (Nat.blt B lo) with q2 | q2 <;> rcases hb (Nat.beq lo hi) with q3 | q3 <;> rw [q, q2, q3] <;> refine ⟨fun g => ?_, fun g => ?_⟩ <;>
      first | (cases g; done) | (have := ev_lt q; rw [nb (show A ≠ B by omega)]; rfl) | (have := ev_lt q2; rw [nb (show A ≠ B by omega)]; rfl) | (have := ev_nlt q; have := ev_nlt q2; have := ev_be q3; rw [ev_bt (show A = B by omega)]; rfl)
  | lt =>
    dsimp only
    rcases hb (Nat.blt hi B) with q | q <;> rcases hb (Nat.ble B lo) with q2 | q2 <;> rw [q, q2] <;> refine ⟨fun g => ?_, fun g => ?_⟩ <;>
      first | (cases g; done) | (have := ev_lt q; exact ev_blt_iff.mpr (by omega)) | (have := ev_le q2; exact nl (by omega))
  | ge =>
    dsimp only
    rcases hb (Nat.blt hi B) with q | q <;> rcases hb (Nat.ble B lo) with q2 | q2 <;> rw [q, q2] <;> refine ⟨fun g => ?_, fun g => ?_⟩ <;>
      first | (cases g; done) | (have := ev_lt q; exact ne (by omega)) | (have := ev_le q2; exact ev_ble_iff.mpr (by omega))
  | gt =>
    dsimp only
    rcases hb (Nat.blt B lo) with q | q <;> rcases hb (Nat.ble hi B) with q2 | q2 <;> rw [q, q2] <;> refine ⟨fun g => ?_, fun g => ?_⟩ <;>
      first | (cases g; done) | (have := ev_lt q; exact ev_blt_iff.mpr (by omega)) | (have := ev_le q2; exact nl (by omega))
  | le =>
    dsimp only
    rcases hb (Nat.blt B lo) with q | q <;> rcases hb (Nat.ble hi B) with q2 | q2 <;> rw [q, q2] <;> refine ⟨fun g => ?_, fun g => ?_⟩ <;>
      first | (cases g; done) | (have := ev_lt q; exact ne (by omega)) | (have := ev_le q2; exact ev_ble_iff.mpr (by omega))
theorem ev_flip_ok (c : ClassFile.Cond) (A B : Nat) : ev_cmp (ev_flip c) A B = ev_cmp c B A := by
  have hc : Nat.beq A B = Nat.beq B A := by
    by_cases h : A = B
    · rw [h]
    · rw [ev_bf h, ev_bf (Ne.symm h)]
  cases c with
  | eq => exact hc
  | ne => show (!Nat.beq A B) = (!Nat.beq B A); rw [hc]
  | _ => rfl
def ev_bq (E : ev_E) (i : Nat) : Nat × Nat := if i < 72 then E.2.2.getD i (0, 4294967295) else if 2 ≤ (E.2.2.getD (i - 72) (0, 4294967295)).1 then ((E.2.2.getD (i - 72) (0, 4294967295)).1 - 2, (E.2.2.getD (i - 72) (0, 4294967295)).2 - 2) else (0, 4294967295)
theorem ev_bd0' (hE : ev_sat E L xs) (i : Nat) (hi : i < 72) : ∃ A : Nat, (ev_dI xs i).toInt = (A : Int) - 2147483648 ∧ (E.2.2.getD i (0, 4294967295)).1 ≤ A ∧ A ≤ (E.2.2.getD i (0, 4294967295)).2 := by
  have h1 := Int32.le_toInt (ev_dI xs i)
  have h2 := Int32.toInt_lt (ev_dI xs i)
  refine ⟨((ev_dI xs i).toInt + 2147483648).toNat, by omega, ?_⟩
  rw [List.getD_eq_getElem?_getD]
  cases hq : E.2.2[i]? with
  | none =>
    show 0 ≤ _ ∧ _ ≤ 4294967295
    omega
  | some q =>
    obtain ⟨g1, g2, g3⟩ := hE.2.2 i q hq
    have : ev_dI xs i = xs i := by unfold ev_dI; rw [if_pos (by omega)]
    rw [this]
    show q.1 ≤ _ ∧ _ ≤ q.2
    omega
theorem ev_bd (hE : ev_sat E L xs) (i : Nat) : ∃ A : Nat, (ev_dI xs i).toInt = (A : Int) - 2147483648 ∧ (ev_bq E i).1 ≤ A ∧ A ≤ (ev_bq E i).2 := by
  unfold ev_bq
  by_cases hi : i < 72
  · rw [if_pos hi]
    exact ev_bd0' hE i hi
  · rw [if_neg hi]
    have h1 := Int32.le_toInt (ev_dI xs i)
    have h2 := Int32.toInt_lt (ev_dI xs i)
    refine ⟨((ev_dI xs i).toInt + 2147483648).toNat, by omega, ?_⟩
    by_cases hq : 2 ≤ (E.2.2.getD (i - 72) (0, 4294967295)).1
    · rw [if_pos hq]
      rw [List.getD_eq_getElem?_getD] at hq ⊢
      cases hb : E.2.2[i - 72]? with
      | none => rw [hb] at hq; exact absurd hq (by decide)
      | some q =>
        rw [hb] at hq
        have hq : 2 ≤ q.1 := hq
        obtain ⟨g1, g2, g3⟩ := hE.2.2 _ q hb
        have hd : ev_dI xs i = xs (i - 72) - 2 := by
          unfold ev_dI
          rw [if_neg (by omega), if_neg (by omega), if_neg hi]
        have hlt := Int32.toInt_lt (xs (i - 72))
        have hs : (xs (i - 72) - 2).toInt = (xs (i - 72)).toInt - 2 := by
          rw [Int32.toInt_sub]
          show ((xs (i - 72)).toInt - 2).bmod (2 ^ 32) = _
          exact Int.bmod_eq_of_le (by omega) (by omega)
        rw [hd, hs]
        show q.1 - 2 ≤ _ ∧ _ ≤ q.2 - 2
        omega
    · rw [if_neg hq]
      show 0 ≤ _ ∧ _ ≤ 4294967295
      omega
theorem ev_bnd_eq {β : Type} (i : Nat) (K : Nat → Nat → β) : ev_bnd E i K = K (ev_bq E i).1 (ev_bq E i).2 := by
  have e : ev_bnd E i K = cond (Nat.blt i 72) (K (ev_nth (0, 4294967295) E.2.2 i).1 (ev_nth (0, 4294967295) E.2.2 i).2) (cond (Nat.ble 2 (ev_nth (0, 4294967295) E.2.2 (i - 72)).1) (ev_fK ((ev_nth (0, 4294967295) E.2.2 (i - 72)).1 - 2) (fun l => ev_fK ((ev_nth (0, 4294967295) E.2.2 (i - 72)).2 - 2) (fun h => K l h))) (K 0 4294967295)) := rfl
  rw [e, ev_nth_eq, ev_nth_eq, ev_fK_eq, ev_fK_eq]
  unfold ev_bq
  by_cases hi : i < 72
  · rw [if_pos hi, ev_blt_iff.mpr hi, cond_true]
  · have hi2 : Nat.blt i 72 = false := by
      cases hb : Nat.blt i 72 with
      | false => rfl
      | true => exact absurd (ev_lt hb) hi
    rw [if_neg hi, hi2, cond_false]
    by_cases hq : 2 ≤ (E.2.2.getD (i - 72) (0, 4294967295)).1
    · rw [if_pos hq, ev_ble_iff.mpr hq, cond_true]
    · have hq2 : Nat.ble 2 (E.2.2.getD (i - 72) (0, 4294967295)).1 = false := by
        cases hb : Nat.ble 2 (E.2.2.getD (i - 72) (0, 4294967295)).1 with
        | false => rfl
        | true => exact absurd (ev_le hb) hq
      rw [if_neg hq, hq2, cond_false]
theorem ev_br3_inv {r n tgt : Nat} {ls st : List ev_V} {h : ev_H} {s' : ev_S} (hs : ev_br3 r n tgt ls st h = some (.inl s')) : (r = 0 ∧ s' = (n, ls, st, h)) ∨ (r = 1 ∧ s' = (tgt, ls, st, h)) := by
  match r, hs with
  | 0, hs => exact Or.inl ⟨rfl, ev_go_inv hs⟩
  | 1, hs => exact Or.inr ⟨rfl, ev_go_inv hs⟩
  | n + 2, hs => cases hs
theorem ev_t_goto {off : Int} : ev_SI L xs E cE cP o ini ret nL pc (.goto off) len a b v (ev_goto a) := by
  intro ls st h ph s' hl hH hs
  obtain rfl := ev_go_inv hs
  exact ⟨_, rfl, ev_mk hl hH⟩
theorem ev_t_ifCond (hE : ev_sat E L xs) {c : ClassFile.Cond} {off : Int} : ev_SI L xs E cE cP o ini ret nL pc (.ifCond c off) len a b v (ev_ifc c (Nat.add pc 3) a) := by
  intro ls st h ph s' hl hH hs
  have key : ∀ (t x : Nat) (r : List ev_V) (u : Int32), ev_dV xs (t, x) = .int u → pm_step (pm_sX L xs) cP o ini ret pc (ls.map (ev_dL xs)) (((t, x) :: r).map (ev_dV xs)) ph (.ifCond c off) len a b v = (bif pm_cmp0 c u then pm_go a (ls.map (ev_dL xs)) (r.map (ev_dV xs)) ph else pm_go (pc + 3) (ls.map (ev_dL xs)) (r.map (ev_dV xs)) ph) := by
    intro t x r u hu
    rw [List.map_cons, hu]
    rfl
  unfold ev_ifc at hs
  split at hs
  · next tx x r =>
    cases h0 : Nat.beq tx 0 with
    | true =>
      rw [h0] at hs
      replace hs : cond (ev_cmp c (ev_ofs x) 2147483648) (ev_go a ls r h) (ev_go (Nat.add pc 3) ls r h) = some (.inl s') := hs
      obtain rfl := ev_be h0
      have e := key 0 x r _ ev_dV0
      rw [ev_cmp0, ev_cmp_ok (ev_toI x) (B := 2147483648) rfl] at e
      cases hc : ev_cmp c (ev_ofs x) 2147483648 with
      | true => rw [hc] at hs e; obtain rfl := ev_go_inv hs; exact ⟨_, e, ev_mk hl hH⟩
      | false => rw [hc] at hs e; obtain rfl := ev_go_inv hs; exact ⟨_, e, ev_mk hl hH⟩
    | false =>
      rw [h0] at hs
      obtain ⟨g1, h3⟩ := ev_c (show cond (Nat.beq tx 4) _ none = some (.inl s') from hs)
      obtain rfl := ev_be g1
      rw [ev_bnd_eq] at h3
      obtain ⟨A, a1, a2, a3⟩ := ev_bd hE x
      have e := key 4 x r _ ev_dV4
      rw [ev_cmp0, ev_cmp_ok a1 (B := 2147483648) rfl] at e
      rcases ev_br3_inv h3 with ⟨g, rfl⟩ | ⟨g, rfl⟩
      · rw [(ev_cmpS_ok a2 a3 c).1 g] at e; exact ⟨_, e, ev_mk hl hH⟩
      · rw [(ev_cmpS_ok a2 a3 c).2 g] at e; exact ⟨_, e, ev_mk hl hH⟩
  · cases hs
theorem ev_t_if_icmp (hE : ev_sat E L xs) {c : ClassFile.Cond} {off : Int} : ev_SI L xs E cE cP o ini ret nL pc (.if_icmp c off) len a b v (ev_icmp c (Nat.add pc 3) a) := by
  intro ls st h ph s' hl hH hs
  have key : ∀ (t x t2 y : Nat) (r : List ev_V) (u z : Int32), ev_dV xs (t, x) = .int u → ev_dV xs (t2, y) = .int z → pm_step (pm_sX L xs) cP o ini ret pc (ls.map (ev_dL xs)) (((t2, y) :: (t, x) :: r).map (ev_dV xs)) ph (.if_icmp c off) len a b v = (bif pm_cmp c u z then pm_go a (ls.map (ev_dL xs)) (r.map (ev_dV xs)) ph else pm_go (pc + 3) (ls.map (ev_dL xs)) (r.map (ev_dV xs)) ph) := by
    intro t x t2 y r u z hu hz
    rw [List.map_cons, List.map_cons, hu, hz]
    rfl
  unfold ev_icmp at hs
  split at hs
  · next ty y tx x r =>
    cases h1 : Nat.beq ty 0 with
    | true =>
      rw [h1] at hs
      replace hs : cond (Nat.beq tx 0) (cond (ev_cmp c (ev_ofs x) (ev_ofs y)) (ev_go a ls r h) (ev_go (Nat.add pc 3) ls r h)) (cond (Nat.beq tx 4) (ev_bnd E x (fun lo hi => ev_br3 (ev_cmpS c lo hi (ev_ofs y)) (Nat.add pc 3) a ls r h)) none) = some (.inl s') := hs
      obtain rfl := ev_be h1
      cases h0 : Nat.beq tx 0 with
      | true =>
        rw [h0] at hs
        replace hs : cond (ev_cmp c (ev_ofs x) (ev_ofs y)) (ev_go a ls r h) (ev_go (Nat.add pc 3) ls r h) = some (.inl s') := hs
        obtain rfl := ev_be h0
        have e := key 0 x 0 y r _ _ ev_dV0 ev_dV0
        rw [ev_cmp_ok (ev_toI x) (ev_toI y)] at e
        cases hc : ev_cmp c (ev_ofs x) (ev_ofs y) with
        | true => rw [hc] at hs e; obtain rfl := ev_go_inv hs; exact ⟨_, e, ev_mk hl hH⟩
        | false => rw [hc] at hs e; obtain rfl := ev_go_inv hs; exact ⟨_, e, ev_mk hl hH⟩
      | false =>
        rw [h0] at hs
        obtain ⟨g1, h3⟩ := ev_c (show cond (Nat.beq tx 4) _ none = some (.inl s') from hs)
        obtain rfl := ev_be g1
        rw [ev_bnd_eq] at h3
        obtain ⟨A, a1, a2, a3⟩ := ev_bd hE x
        have e := key 4 x 0 y r _ _ ev_dV4 ev_dV0
        rw [ev_cmp_ok a1 (ev_toI y)] at e
        rcases ev_br3_inv h3 with ⟨g, rfl⟩ | ⟨g, rfl⟩
        · rw [(ev_cmpS_ok a2 a3 c).1 g] at e; exact ⟨_, e, ev_mk hl hH⟩
        · rw [(ev_cmpS_ok a2 a3 c).2 g] at e; exact ⟨_, e, ev_mk hl hH⟩
    | false =>
      rw [h1] at hs
      obtain ⟨g1, h3⟩ := ev_c (show cond (Nat.beq ty 4) _ none = some (.inl s') from hs)
      obtain ⟨g2, h4⟩ := ev_c h3
      obtain rfl := ev_be g1
      obtain rfl := ev_be g2
      rw [ev_bnd_eq] at h4
      obtain ⟨A, a1, a2, a3⟩ := ev_bd hE y
      have e := key 0 x 4 y r _ _ ev_dV0 ev_dV4
      rw [ev_cmp_ok (ev_toI x) a1, ← ev_flip_ok] at e
      rcases ev_br3_inv h4 with ⟨g, rfl⟩ | ⟨g, rfl⟩
      · rw [(ev_cmpS_ok a2 a3 (ev_flip c)).1 g] at e; exact ⟨_, e, ev_mk hl hH⟩
      · rw [(ev_cmpS_ok a2 a3 (ev_flip c)).2 g] at e; exact ⟨_, e, ev_mk hl hH⟩
  · cases hs
theorem ev_lgc {x y : Int64} : (x.toInt < y.toInt → lg_cmp x y = -1) ∧ (y.toInt < x.toInt → lg_cmp x y = 1) ∧ (x.toInt = y.toInt → lg_cmp x y = 0) := by
  unfold lg_cmp
  refine ⟨fun h => ?_, fun h => ?_, fun h => ?_⟩
  · rw [if_neg (by rw [gt_iff_lt, Int64.lt_iff_toInt_lt]; omega), if_neg (by rw [← Int64.toInt_inj]; omega)]
  · rw [if_pos (by rw [gt_iff_lt, Int64.lt_iff_toInt_lt]; omega)]
  · rw [if_neg (by rw [gt_iff_lt, Int64.lt_iff_toInt_lt]; omega), if_pos (by rw [← Int64.toInt_inj]; omega)]
theorem ev_t_lcmp (hE : ev_sat E L xs) : ev_SI L xs E cE cP o ini ret nL pc .lcmp len a b v (ev_lcmp (Nat.add pc 1)) := by
  intro ls st h ph s' hl hH hs
  have key : ∀ (t x t2 y : Nat) (r : List ev_V) (u z : Int64), ev_dV xs (t, x) = .long u → ev_dV xs (t2, y) = .long z → pm_step (pm_sX L xs) cP o ini ret pc (ls.map (ev_dL xs)) (((t2, y) :: (t, x) :: r).map (ev_dV xs)) ph .lcmp len a b v = pm_go (pc + 1) (ls.map (ev_dL xs)) (.int (lg_cmp u z) :: r.map (ev_dV xs)) ph := by
    intro t x t2 y r u z hu hz
    rw [List.map_cons, List.map_cons, hu, hz]
    rfl
  unfold ev_lcmp at hs
  split at hs
  · next ty y tx x r =>
    obtain ⟨g0, h2⟩ := ev_c hs
    obtain rfl := ev_be g0
    cases h0 : Nat.beq tx 1 with
    | true =>
      rw [h0] at h2
      replace h2 : ev_fK (ev_ci (lg_cmp (Int64.ofNat x) (Int64.ofNat y))) (fun z => ev_go (Nat.add pc 1) ls ((0, z) :: r) h) = some (.inl s') := h2
      rw [ev_fK_eq] at h2
      obtain rfl := ev_be h0
      obtain rfl := ev_go_inv h2
      refine ⟨_, key 1 x 1 y r _ _ ev_dV1 ev_dV1, rfl, rfl, ?_, hl, hH⟩
      show _ = ev_dV xs (0, ev_ci (lg_cmp (Int64.ofNat x) (Int64.ofNat y))) :: r.map (ev_dV xs)
      rw [ev_dV0, ev_ci_eq]
    | false =>
      rw [h0] at h2
      obtain ⟨g1, h3⟩ := ev_c (show cond (Nat.beq tx 5) _ none = some (.inl s') from h2)
      obtain rfl := ev_be g1
      rw [ev_bnd_eq] at h3
      obtain ⟨A, a1, a2, a3⟩ := ev_bd hE x
      have e := key 5 x 1 y r _ _ ev_dV5 ev_dV1
      have hx : (ev_dI xs x).toInt64.toInt = (A : Int) - 2147483648 := by rw [Int32.toInt_toInt64]; exact a1
      have hy := ev_toL y
      obtain ⟨k1, k2, k3⟩ := ev_lgc (x := (ev_dI xs x).toInt64) (y := Int64.ofNat y)
      cases q1 : Nat.blt (Nat.add (ev_bq E x).2 9223372034707292160) (ev_ofs8 y) with
      | true =>
        rw [q1, cond_true] at h3
        obtain rfl := ev_go_inv h3
        have q2 := ev_lt q1
        have q2 : (ev_bq E x).2 + 9223372034707292160 < ev_ofs8 y := q2
        refine ⟨_, e, rfl, rfl, ?_, hl, hH⟩
        show Value.int _ :: _ = ev_dV xs (0, 4294967295) :: r.map (ev_dV xs)
        rw [ev_dV0, k1 (by omega)]
        rfl
      | false =>
        rw [q1, cond_false] at h3
        have q0 := ev_nlt q1
        have q0 : ev_ofs8 y ≤ (ev_bq E x).2 + 9223372034707292160 := q0
        cases q3 : Nat.blt (ev_ofs8 y) (Nat.add (ev_bq E x).1 9223372034707292160) with
        | true =>
          rw [q3, cond_true] at h3
          obtain rfl := ev_go_inv h3
          have q2 := ev_lt q3
          have q2 : ev_ofs8 y < (ev_bq E x).1 + 9223372034707292160 := q2
          refine ⟨_, e, rfl, rfl, ?_, hl, hH⟩
          show Value.int _ :: _ = ev_dV xs (0, 1) :: r.map (ev_dV xs)
          rw [ev_dV0, k2 (by omega)]
          rfl
        | false =>
          rw [q3, cond_false] at h3
          have q4 := ev_nlt q3
          have q4 : (ev_bq E x).1 + 9223372034707292160 ≤ ev_ofs8 y := q4
          obtain ⟨q5, h4⟩ := ev_c h3
          obtain rfl := ev_go_inv h4
          have q6 := ev_be q5
          refine ⟨_, e, rfl, rfl, ?_, hl, hH⟩
          show Value.int _ :: _ = ev_dV xs (0, 0) :: r.map (ev_dV xs)
          rw [ev_dV0, k3 (by omega)]
          rfl
  · cases hs
theorem ev_t_ifnull {off : Int} : ev_SI L xs E cE cP o ini ret nL pc (.ifnull off) len a b v (ev_nul (Nat.add pc 3) a) := by
  intro ls st h ph s' hl hH hs
  unfold ev_nul at hs
  split at hs
  · next tx x r =>
    cases h0 : Nat.beq tx 2 with
    | true =>
      rw [h0] at hs
      obtain rfl := ev_be h0
      obtain rfl := ev_go_inv (show ev_go _ _ _ _ = some (.inl s') from hs)
      exact ⟨_, rfl, ev_mk hl hH⟩
    | false =>
      rw [h0] at hs
      obtain ⟨g1, h3⟩ := ev_c (show cond (Nat.beq tx 10) _ none = some (.inl s') from hs)
      obtain rfl := ev_be g1
      obtain rfl := ev_go_inv h3
      rw [List.map_cons, ev_dVn]
      exact ⟨_, rfl, ev_mk hl hH⟩
  · cases hs
theorem ev_t_ifnonnull {off : Int} : ev_SI L xs E cE cP o ini ret nL pc (.ifnonnull off) len a b v (ev_nul a (Nat.add pc 3)) := by
  intro ls st h ph s' hl hH hs
  unfold ev_nul at hs
  split at hs
  · next tx x r =>
    cases h0 : Nat.beq tx 2 with
    | true =>
      rw [h0] at hs
      obtain rfl := ev_be h0
      obtain rfl := ev_go_inv (show ev_go _ _ _ _ = some (.inl s') from hs)
      exact ⟨_, rfl, ev_mk hl hH⟩
    | false =>
      rw [h0] at hs
      obtain ⟨g1, h3⟩ := ev_c (show cond (Nat.beq tx 10) _ none = some (.inl s') from hs)
      obtain rfl := ev_be g1
      obtain rfl := ev_go_inv h3
      rw [List.map_cons, ev_dVn]
      exact ⟨_, rfl, ev_mk hl hH⟩
  · cases hs
theorem ev_t_tableswitch (hE : ev_sat E L xs) {dflt lo hi : Int} {offs : Array Int} (h1 : -2147483648 ≤ lo) (h2 : lo ≤ hi) (h3 : hi < 2147483648) : ev_SI L xs E cE cP o ini ret nL pc (.tableswitch dflt lo hi offs) len a b v (ev_tsw pc dflt lo hi offs.toList) := by
  intro ls st h ph s' hl hH hs
  have tl : (ev_tl lo : Int) = lo + 2147483648 := Int.toNat_of_nonneg (by omega)
  have th : (ev_tl hi : Int) = hi + 2147483648 := Int.toNat_of_nonneg (by omega)
  have key : ∀ (t x : Nat) (r : List ev_V) (u : Int32), ev_dV xs (t, x) = .int u → pm_step (pm_sX L xs) cP o ini ret pc (ls.map (ev_dL xs)) (((t, x) :: r).map (ev_dV xs)) ph (.tableswitch dflt lo hi offs) len a b v = (bif decide (u.toInt < lo) || decide (hi < u.toInt) then (bif decide (0 ≤ (pc : Int) + dflt) then pm_go ((pc : Int) + dflt).toNat (ls.map (ev_dL xs)) (r.map (ev_dV xs)) ph else none) else
    (match offs.toList[(u.toInt - lo).toNat]? with
    | some off => bif decide (0 ≤ (pc : Int) + off) then pm_go ((pc : Int) + off).toNat (ls.map (ev_dL xs)) (r.map (ev_dV xs)) ph else none
    | none => none)) := by
    intro t x r u hu
    rw [List.map_cons, hu]
    rfl
  unfold ev_tsw at hs
  split at hs
  · next tx x r =>
    cases h0 : Nat.beq tx 0 with
    | true =>
      rw [h0, cond_true] at hs
      obtain rfl := ev_be h0
      have e := key 0 x r _ ev_dV0
      have hx := ev_toI x
      have eq1 : (decide ((Int32.ofNat x).toInt < lo) || decide (hi < (Int32.ofNat x).toInt)) = (Nat.blt (ev_ofs x) (ev_tl lo) || Nat.blt (ev_tl hi) (ev_ofs x)) := by
        rw [ev_bool (c := Nat.blt (ev_ofs x) (ev_tl lo)) _ (by rw [ev_blt_iff]; omega), ev_bool (c := Nat.blt (ev_tl hi) (ev_ofs x)) _ (by rw [ev_blt_iff]; omega)]
      rw [eq1] at e
      cases hc : (Nat.blt (ev_ofs x) (ev_tl lo) || Nat.blt (ev_tl hi) (ev_ofs x)) with
      | true =>
        rw [hc, cond_true] at hs e
        obtain ⟨g1, h4⟩ := ev_c hs
        rw [ev_fK_eq] at h4
        obtain rfl := ev_go_inv h4
        rw [g1, cond_true] at e
        exact ⟨_, e, ev_mk hl hH⟩
      | false =>
        rw [hc, cond_false] at hs e
        rw [Bool.or_eq_false_iff] at hc
        have c1 := ev_nlt hc.1
        have c2 := ev_nlt hc.2
        have hi2 : ((Int32.ofNat x).toInt - lo).toNat = ev_ofs x - ev_tl lo := by omega
        rw [hi2] at e
        cases ho : offs.toList[ev_ofs x - ev_tl lo]? with
        | none => rw [ho] at hs; cases hs
        | some off =>
          rw [ho] at hs e
          obtain ⟨g1, h4⟩ := ev_c hs
          rw [ev_fK_eq] at h4
          obtain rfl := ev_go_inv h4
          dsimp only at e
          rw [g1, cond_true] at e
          exact ⟨_, e, ev_mk hl hH⟩
    | false =>
      rw [h0, cond_false] at hs
      obtain ⟨g1, h4⟩ := ev_c hs
      obtain rfl := ev_be g1
      rw [ev_bnd_eq] at h4
      obtain ⟨A, a1, a2, a3⟩ := ev_bd hE x
      obtain ⟨g2, h5⟩ := ev_c h4
      obtain ⟨g3, h6⟩ := ev_c h5
      rw [ev_fK_eq] at h6
      obtain rfl := ev_go_inv h6
      have e := key 4 x r _ ev_dV4
      have hc : (decide ((ev_dI xs x).toInt < lo) || decide (hi < (ev_dI xs x).toInt)) = true := by
        rw [Bool.or_eq_true] at g2 ⊢
        rcases g2 with g | g
        · have := ev_lt g
          exact Or.inl (decide_eq_true (by omega))
        · have := ev_lt g
          exact Or.inr (decide_eq_true (by omega))
      rw [hc, cond_true, g3, cond_true] at e
      exact ⟨_, e, ev_mk hl hH⟩
  · cases hs
/-! cells -/
theorem ev_obj {h : ev_H} {ph : pm_H} {x ci : Nat} {fs : List ev_V} (hH : ev_RH xs h ph) (hx : x < h.1) (hc : ev_get h.2.2 x = .inr (ci, fs)) : pm_obj ph (.ref x) = some (x, ci, fs.map (ev_dV xs)) ∧ fs.length = pm_cn ci := by
  obtain ⟨e1, e2, e3, e4, e5⟩ := hH
  have := e5 x hx
  rw [hc] at this
  obtain ⟨g1, g2⟩ := this
  refine ⟨?_, g2⟩
  show (bif decide (x < ph.1) then _ else none) = _
  rw [decide_eq_true (by rw [e1]; exact hx), g1]
  rfl
theorem ev_arr {X : pm_X} {h : ev_H} {ph : pm_H} {x t n N : Nat} {ov : List (Nat × Nat)} (hH : ev_RH xs h ph) (hx : x < h.1) (hc : ev_get h.2.2 x = .inl (t, n, N, ov)) : ∃ z, pm_arr X ph (.ref x) = some (t, n, z) ∧ ev_RA xs t n N ov z := by
  obtain ⟨e1, e2, e3, e4, e5⟩ := hH
  have := e5 x hx
  rw [hc] at this
  obtain ⟨z, g1, g2⟩ := this
  refine ⟨z, ?_, g2⟩
  show (bif decide (x < ph.1) then _ else none) = _
  rw [decide_eq_true (by rw [e1]; exact hx), g1]
  rfl
theorem ev_RH_set {h : ev_H} {ph : pm_H} {x : Nat} {c : ev_C} {p : pm_C} (hH : ev_RH xs h ph) (hx : x < h.1) (hc : ev_RC xs c p) : ev_RH xs (h.1, h.2.1, ev_hset h.2.2 x c) (pm_hset ph x p) := by
  obtain ⟨e1, e2, e3, e4, e5⟩ := hH
  refine ⟨e1, e2, ev_shape_set e3 (by omega), e4, fun y hy => ?_⟩
  show ev_RC xs (ev_get (ev_hset h.2.2 x c) y) (va_up ph.2.2 x p y)
  rw [ev_get_set e3 (by omega)]
  by_cases hyx : y = x
  · rw [if_pos hyx, hyx, va_up_self]; exact hc
  · rw [if_neg hyx, va_up_ne _ _ hyx]; exact e5 y hy
theorem ev_RH_push {h : ev_H} {ph : pm_H} {n : Nat} {c : ev_C} {p : pm_C} (hH : ev_RH xs h ph) (hx : h.1 < 160) (hc : ev_RC xs c p) : ev_RH xs (h.1 + 1, h.2.1 + n, ev_hset h.2.2 h.1 c) (pm_hpush ph n p) := by
  obtain ⟨e1, e2, e3, e4, e5⟩ := hH
  refine ⟨by show ph.1 + 1 = h.1 + 1; rw [e1], by show ph.2.1 + n = h.2.1 + n; rw [e2], ev_shape_set e3 hx, hx, fun y hy => ?_⟩
  show ev_RC xs (ev_get (ev_hset h.2.2 h.1 c) y) (va_up ph.2.2 ph.1 p y)
  rw [ev_get_set e3 hx, e1]
  by_cases hyx : y = h.1
  · rw [if_pos hyx, hyx, va_up_self]; exact hc
  · rw [if_neg hyx, va_up_ne _ _ hyx]
    have hy : y < h.1 + 1 := hy
    exact e5 y (by omega)
theorem ev_t_getfield {ix : Nat} (ha : a ≠ 100) (hb : b < pm_cn a) : ev_SI L xs E cE cP o ini ret nL pc (.getfield ix) len a b v (ev_gf (Nat.add pc 3) a b) := by
  intro ls st h ph s' hl hH hs
  unfold ev_gf at hs
  split at hs
  · next tx x r =>
    obtain ⟨g1, h2⟩ := ev_c hs
    obtain ⟨g2, h3⟩ := ev_c h2
    obtain rfl := ev_be g1
    split at h3
    · next cj fs hc =>
      obtain ⟨g3, h4⟩ := ev_c h3
      obtain rfl := ev_be g3
      have h5 : ev_go (Nat.add pc 3) ls (((ev_nth (3, 0) fs b).1, (ev_nth (3, 0) fs b).2) :: r) h = some (.inl s') := h4
      rw [ev_nth_eq] at h5
      obtain rfl := ev_go_inv h5
      obtain ⟨o1, o2⟩ := ev_obj hH (ev_lt g2) hc
      have hbl : b < fs.length := by rw [o2]; exact hb
      refine ⟨(pc + 3, ls.map (ev_dL xs), ev_dV xs (fs.getD b (3, 0)) :: r.map (ev_dV xs), ph), ?_, rfl, rfl, rfl, hl, hH⟩
      show (match pm_obj ph (.ref x) with
        | some (_, ci, fs) => bif ci == cj && decide (b < pm_cn cj) then (match fs[b]? with
          | some u => pm_go (pc + 3) (ls.map (ev_dL xs)) (u :: r.map (ev_dV xs)) ph
          | none => none) else none
        | none => none) = _
      rw [o1]
      show (bif cj == cj && decide (b < pm_cn cj) then (match (fs.map (ev_dV xs))[b]? with
          | some u => pm_go (pc + 3) (ls.map (ev_dL xs)) (u :: r.map (ev_dV xs)) ph
          | none => none) else none) = _
      rw [beq_self_eq_true, decide_eq_true hb, List.getElem?_map, List.getElem?_eq_getElem hbl, List.getD_eq_getElem?_getD, List.getElem?_eq_getElem hbl]
      rfl
    · cases h3
  · cases hs
theorem ev_t_getfieldS {ix : Nat} : ev_SI L xs E cE cP o ini ret nL pc (.getfield ix) len 100 b v (ev_gs (Nat.add pc 3) b) := by
  intro ls st h ph s' hl hH hs
  unfold ev_gs at hs
  split at hs
  · next tx x r =>
    obtain ⟨g1, h2⟩ := ev_c hs
    obtain ⟨g2, h3⟩ := ev_c h2
    obtain rfl := ev_be g1
    have hx := ev_lt g2
    rw [List.map_cons, ev_dV6]
    have e : pm_step (pm_sX L xs) cP o ini ret pc (ls.map (ev_dL xs)) (.retAddr x :: r.map (ev_dV xs)) ph (.getfield ix) len 100 b v = (bif 100 == 100 && decide (x < 23) then (bif b == 0 then pm_go (pc + 3) (ls.map (ev_dL xs)) (.retAddr (100 + x) :: r.map (ev_dV xs)) ph else pm_go (pc + 3) (ls.map (ev_dL xs)) (.int 0 :: r.map (ev_dV xs)) ph) else none) := rfl
    rw [decide_eq_true hx] at e
    cases hb : Nat.beq b 0 with
    | true =>
      rw [hb] at h3
      obtain rfl := ev_be hb
      obtain rfl := ev_go_inv (show ev_go _ _ _ _ = some (.inl s') from h3)
      refine ⟨_, e, rfl, rfl, ?_, hl, hH⟩
      show Value.retAddr (100 + x) :: _ = ev_dV xs (6, 100 + x) :: r.map (ev_dV xs)
      rw [ev_dV6]
    | false =>
      rw [hb] at h3
      obtain rfl := ev_go_inv (show ev_go _ _ _ _ = some (.inl s') from h3)
      have hb2 : (b == 0) = false := by
        rw [beq_eq_false_iff_ne]
        intro g
        rw [ev_bt g] at hb
        cases hb
      rw [hb2] at e
      exact ⟨_, e, rfl, rfl, rfl, hl, hH⟩
  · cases hs
theorem ev_fit_ok {ty : FieldType} {t p : Nat} (hf : ev_fit (ev_fk ty) t p = true) : pm_fit ty (ev_dV xs (t, p)) = true := by
  cases ty with
  | int =>
    have hf : Nat.beq (Nat.mod t 4) 0 = true := hf
    rw [ev_dVi (ev_be hf)]; rfl
  | long =>
    have hf : Nat.beq (Nat.mod t 4) 1 = true := hf
    rw [ev_dVl (ev_be hf)]; rfl
  | boolean =>
    have hf : (Nat.beq t 0 && Nat.ble p 1) = true := hf
    rw [Bool.and_eq_true] at hf
    obtain rfl := ev_be hf.1
    have := ev_le hf.2
    rw [ev_dV0]
    match p, this with
    | 0, _ => rfl
    | 1, _ => rfl
    | n + 2, h => exact absurd h (by omega)
  | object C =>
    have hf : (Nat.beq t 2 || Nat.beq t 10) = true := hf
    rw [Bool.or_eq_true] at hf
    rcases hf with g | g
    · obtain rfl := ev_be g; rfl
    · obtain rfl := ev_be g; rw [ev_dVn]; rfl
  | array C =>
    have hf : (Nat.beq t 2 || Nat.beq t 10) = true := hf
    rw [Bool.or_eq_true] at hf
    rcases hf with g | g
    · obtain rfl := ev_be g; rfl
    · obtain rfl := ev_be g; rw [ev_dVn]; rfl
  | _ => cases hf
theorem ev_t_putfield {ix : Nat} (hb : b < pm_cn a) (hfin : (!pm_fin a b || (ini && decide (pm_cnm a = pm_own o))) = true) : ev_SI L xs E cE cP o ini ret nL pc (.putfield ix) len a b v (ev_pf (Nat.add pc 3) a b (ev_fk (pm_ty a b))) := by
  intro ls st h ph s' hl hH hs
  unfold ev_pf at hs
  split at hs
  · next t p tx x r =>
    obtain ⟨g1, h2⟩ := ev_c hs
    obtain ⟨g2, h3⟩ := ev_c h2
    obtain ⟨g3, h4⟩ := ev_c h3
    obtain rfl := ev_be g1
    split at h4
    · next cj fs hc =>
      obtain ⟨g4, h5⟩ := ev_c h4
      obtain rfl := ev_be g4
      rw [ev_setK_eq, ev_hsK_eq] at h5
      obtain rfl := ev_go_inv h5
      obtain ⟨o1, o2⟩ := ev_obj hH (ev_lt g2) hc
      have hbl : b < fs.length := by rw [o2]; exact hb
      refine ⟨(pc + 3, ls.map (ev_dL xs), r.map (ev_dV xs), pm_hset ph x (.inr (cj, (fs.map (ev_dV xs)).set b (ev_dV xs (t, p))))), ?_, rfl, rfl, rfl, hl, ?_⟩
      · show (match pm_obj ph (.ref x) with
          | some (x, ci, fs) => bif ci == cj && decide (b < pm_cn cj) && decide (b < fs.length) && pm_fit (pm_ty cj b) (ev_dV xs (t, p)) && (!pm_fin cj b || (ini && decide (pm_cnm cj = pm_own o))) then pm_go (pc + 3) (ls.map (ev_dL xs)) (r.map (ev_dV xs)) (pm_hset ph x (.inr (cj, fs.set b (ev_dV xs (t, p))))) else none
          | none => none) = _
        rw [o1]
        show (bif cj == cj && decide (b < pm_cn cj) && decide (b < (fs.map (ev_dV xs)).length) && pm_fit (pm_ty cj b) (ev_dV xs (t, p)) && (!pm_fin cj b || (ini && decide (pm_cnm cj = pm_own o))) then _ else none) = _
        rw [beq_self_eq_true, decide_eq_true hb, decide_eq_true (by rw [List.length_map]; exact hbl), ev_fit_ok g3, hfin]
        rfl
      · refine ev_RH_set hH (ev_lt g2) ⟨?_, by rw [List.length_set]; exact o2⟩
        rw [List.map_set]
    · cases h4
  · cases hs
theorem ev_new_inv {n k : Nat} {c : ev_C} {ls r : List ev_V} {h : ev_H} {s' : ev_S} (hs : ev_new n k c ls r h = some (.inl s')) : h.1 < 160 ∧ s' = (n, ls, (2, h.1) :: r, (h.1 + 1, h.2.1 + k, ev_hset h.2.2 h.1 c)) := by
  unfold ev_new at hs
  obtain ⟨g1, h2⟩ := ev_c hs
  rw [ev_hsK_eq, ev_fK_eq, ev_fK_eq] at h2
  exact ⟨ev_lt g1, ev_go_inv h2⟩
def ev_df (ty : FieldType) : ev_V := match ev_fk ty with
  | 1 => (1, 0)
  | 3 => (10, 0)
  | _ => (0, 0)
theorem ev_dfK_eq {β : Type} (ty : FieldType) (K : ev_V → β) : ev_dfK ty K = K (ev_df ty) := by
  unfold ev_dfK ev_df
  generalize ev_fk ty = q
  match q with
  | 0 => rfl
  | 1 => rfl
  | 2 => rfl
  | 3 => rfl
  | n + 4 => rfl
theorem ev_mkK_eq {β : Type} (f : Nat → FieldType) : ∀ (n i : Nat) (K : List ev_V → β), ev_mkK f n i K = K ((List.range n).map (fun k => ev_df (f (i + k))))
  | 0, i, K => rfl
  | n + 1, i, K => by
    have e : ev_mkK f (n + 1) i K = ev_dfK (f i) (fun v => ev_mkK f n (i + 1) (fun t => K (v :: t))) := rfl
    rw [e, ev_dfK_eq, ev_mkK_eq f n (i + 1)]
    congr 1
    rw [List.range_succ_eq_map, List.map_cons, List.map_map]
    congr 1
    apply List.map_congr_left
    intro k _
    show ev_df (f (i + 1 + k)) = ev_df (f (i + (k + 1)))
    rw [show i + 1 + k = i + (k + 1) by omega]
theorem ev_df_all : (List.range 12).all (fun ci => (List.range (pm_cn ci)).all (fun k => decide (ev_fk (pm_ty ci k) < 4))) = true := by decide +kernel
theorem ev_df_ok {ty : FieldType} (h : ev_fk ty < 4) : ev_dV xs (ev_df ty) = defaultValue ty := by
  cases ty with
  | object C => exact ev_dVn
  | array C => exact ev_dVn
  | long => rfl
  | int => rfl
  | boolean => rfl
  | _ => exact absurd h (by decide)
theorem ev_t_new {ix : Nat} (ha : a < 12) : ev_SI L xs E cE cP o ini ret nL pc (.new ix) len a b v (ev_nw (Nat.add pc 3) a) := by
  intro ls st h ph s' hl hH hs
  unfold ev_nw at hs
  rw [ev_mkK_eq] at hs
  obtain ⟨g1, rfl⟩ := ev_new_inv hs
  have hlt : a < pm_cls.length := by rw [pm_clen.1]; exact ha
  have hq : pm_cls[a]? = some pm_cls[a] := List.getElem?_eq_getElem hlt
  have hN : pm_newN a = (List.range (pm_cn a)).map (fun k => defaultValue (pm_ty a k)) := by
    unfold pm_newN pm_cn
    rw [hq]
  have e : pm_step (pm_sX L xs) cP o ini ret pc (ls.map (ev_dL xs)) (st.map (ev_dV xs)) ph (.new ix) len a b v = (bif decide (a < 12) then pm_go (pc + 3) (ls.map (ev_dL xs)) (.ref ph.1 :: st.map (ev_dV xs)) (pm_hpush ph (pm_cn a) (.inr (a, pm_newN a))) else none) := rfl
  rw [decide_eq_true ha] at e
  refine ⟨_, e, rfl, rfl, ?_, hl, ?_⟩
  · show Value.ref ph.1 :: _ = ev_dV xs (2, h.1) :: st.map (ev_dV xs)
    rw [ev_dV2, hH.1]
  · refine ev_RH_push hH g1 ⟨?_, by simp⟩
    rw [hN, List.map_map]
    congr 2
    apply List.map_congr_left
    intro k hk
    have h1 := List.all_eq_true.mp ev_df_all a (List.mem_range.mpr ha)
    have h2 := List.all_eq_true.mp h1 k hk
    show _ = ev_dV xs (ev_df (pm_ty a (0 + k)))
    rw [Nat.zero_add, ev_df_ok (of_decide_eq_true h2)]
theorem ev_na_inv {n kind : Nat} {ls st : List ev_V} {h : ev_H} {s' : ev_S} (hs : ev_na n kind cE E ls st h = some (.inl s')) : ∃ x r, st = (0, x) :: r ∧ x ≤ 16777216 ∧ h.1 < 160 ∧ s' = (n, ls, (2, h.1) :: r, (h.1 + 1, h.2.1 + x, ev_hset h.2.2 h.1 (.inl (kind, x, 0, [])))) := by
  unfold ev_na at hs
  split at hs
  · next tx x r =>
    obtain ⟨g1, h2⟩ := ev_c hs
    obtain ⟨g2, h3⟩ := ev_c h2
    obtain rfl := ev_be g1
    obtain ⟨g3, rfl⟩ := ev_new_inv h3
    exact ⟨x, r, rfl, ev_le g2, g3, rfl⟩
  · cases hs
theorem ev_len {x : Nat} (hx : x ≤ 16777216) : (decide (Int32.ofNat x < 0) || decide (16777216 < (Int32.ofNat x).toNatClampNeg)) = false ∧ (Int32.ofNat x).toNatClampNeg = x := by
  have h1 : (Int32.ofNat x).toNatClampNeg = x := Int32.toNatClampNeg_ofNat_of_lt (by omega)
  refine ⟨?_, h1⟩
  rw [h1, decide_eq_false (ev_nneg hx), decide_eq_false (by omega)]
  rfl
theorem ev_t_na_int : ev_SI L xs E cE cP o ini ret nL pc (.newarray .int) len a b v (ev_na (Nat.add pc 2) 0) := by
  intro ls st h ph s' hl hH hs
  obtain ⟨x, r, rfl, hx, h160, rfl⟩ := ev_na_inv hs
  obtain ⟨n1, n2⟩ := ev_len hx
  have e : pm_step (pm_sX L xs) cP o ini ret pc (ls.map (ev_dL xs)) (((0, x) :: r).map (ev_dV xs)) ph (.newarray .int) len a b v = (bif decide (Int32.ofNat x < 0) || decide (16777216 < (Int32.ofNat x).toNatClampNeg) then none else pm_go (pc + 2) (ls.map (ev_dL xs)) (.ref ph.1 :: r.map (ev_dV xs)) (pm_hpush ph (Int32.ofNat x).toNatClampNeg (.inl (0, (Int32.ofNat x).toNatClampNeg, .inl (fun _ => 0))))) := rfl
  rw [n1, n2] at e
  refine ⟨_, e, rfl, rfl, ?_, hl, ?_⟩
  · show Value.ref ph.1 :: _ = ev_dV xs (2, h.1) :: r.map (ev_dV xs)
    rw [ev_dV2, hH.1]
  · exact ev_RH_push hH h160 ⟨_, rfl, ⟨Or.inl rfl, fun j _ => by show (0 : Int32) = Int32.ofNat (ev_ln 0 j); rw [ev_ln_0]; rfl⟩⟩
theorem ev_t_na_long : ev_SI L xs E cE cP o ini ret nL pc (.newarray .long) len a b v (ev_na (Nat.add pc 2) 1) := by
  intro ls st h ph s' hl hH hs
  obtain ⟨x, r, rfl, hx, h160, rfl⟩ := ev_na_inv hs
  obtain ⟨n1, n2⟩ := ev_len hx
  have e : pm_step (pm_sX L xs) cP o ini ret pc (ls.map (ev_dL xs)) (((0, x) :: r).map (ev_dV xs)) ph (.newarray .long) len a b v = (bif decide (Int32.ofNat x < 0) || decide (16777216 < (Int32.ofNat x).toNatClampNeg) then none else pm_go (pc + 2) (ls.map (ev_dL xs)) (.ref ph.1 :: r.map (ev_dV xs)) (pm_hpush ph (Int32.ofNat x).toNatClampNeg (.inl (1, (Int32.ofNat x).toNatClampNeg, .inr (.inl (fun _ => 0)))))) := rfl
  rw [n1, n2] at e
  refine ⟨_, e, rfl, rfl, ?_, hl, ?_⟩
  · show Value.ref ph.1 :: _ = ev_dV xs (2, h.1) :: r.map (ev_dV xs)
    rw [ev_dV2, hH.1]
  · exact ev_RH_push hH h160 ⟨_, rfl, ⟨rfl, fun j _ => by show (0 : Int64) = Int64.ofNat (ev_ln8 0 j); rw [ev_ln8_0]; rfl⟩⟩
theorem ev_t_na_boolean : ev_SI L xs E cE cP o ini ret nL pc (.newarray .boolean) len a b v (ev_na (Nat.add pc 2) 2) := by
  intro ls st h ph s' hl hH hs
  obtain ⟨x, r, rfl, hx, h160, rfl⟩ := ev_na_inv hs
  obtain ⟨n1, n2⟩ := ev_len hx
  have e : pm_step (pm_sX L xs) cP o ini ret pc (ls.map (ev_dL xs)) (((0, x) :: r).map (ev_dV xs)) ph (.newarray .boolean) len a b v = (bif decide (Int32.ofNat x < 0) || decide (16777216 < (Int32.ofNat x).toNatClampNeg) then none else pm_go (pc + 2) (ls.map (ev_dL xs)) (.ref ph.1 :: r.map (ev_dV xs)) (pm_hpush ph (Int32.ofNat x).toNatClampNeg (.inl (2, (Int32.ofNat x).toNatClampNeg, .inl (fun _ => 0))))) := rfl
  rw [n1, n2] at e
  refine ⟨_, e, rfl, rfl, ?_, hl, ?_⟩
  · show Value.ref ph.1 :: _ = ev_dV xs (2, h.1) :: r.map (ev_dV xs)
    rw [ev_dV2, hH.1]
  · exact ev_RH_push hH h160 ⟨_, rfl, ⟨Or.inr rfl, fun j _ => by show (0 : Int32) = Int32.ofNat (ev_ln 0 j); rw [ev_ln_0]; rfl⟩⟩
theorem ev_t_anewarray {ix : Nat} (ha : a = 3 ∨ a = 4) : ev_SI L xs E cE cP o ini ret nL pc (.anewarray ix) len a b v (ev_na (Nat.add pc 3) a) := by
  intro ls st h ph s' hl hH hs
  obtain ⟨x, r, rfl, hx, h160, rfl⟩ := ev_na_inv hs
  obtain ⟨n1, n2⟩ := ev_len hx
  have e : pm_step (pm_sX L xs) cP o ini ret pc (ls.map (ev_dL xs)) (((0, x) :: r).map (ev_dV xs)) ph (.anewarray ix) len a b v = (bif decide (Int32.ofNat x < 0) || decide (16777216 < (Int32.ofNat x).toNatClampNeg) || !(a == 3 || a == 4) then none else pm_go (pc + 3) (ls.map (ev_dL xs)) (.ref ph.1 :: r.map (ev_dV xs)) (pm_hpush ph (Int32.ofNat x).toNatClampNeg (.inl (a, (Int32.ofNat x).toNatClampNeg, .inr (.inr (.inr (.inr (fun _ => none)))))))) := rfl
  have ha2 : (a == 3 || a == 4) = true := by rcases ha with rfl | rfl <;> rfl
  rw [n1, n2, ha2] at e
  refine ⟨_, e, rfl, rfl, ?_, hl, ?_⟩
  · show Value.ref ph.1 :: _ = ev_dV xs (2, h.1) :: r.map (ev_dV xs)
    rw [ev_dV2, hH.1]
  · exact ev_RH_push hH h160 ⟨_, rfl, ha, fun j _ => by show none = ev_ref (ev_ln 0 j); rw [ev_ln_0]; rfl⟩
end EVS2
