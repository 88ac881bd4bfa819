/-! THE CLAIM OUT OF ONE WALK OF THE LAW'S BODY. Your part is whole_start (and what it stands on); all else here is the same for every law, but numbers. -/
def R_law : String := "TrainBearersLaw"
def lw_P (b : Addr) (xs : List Int32) (args : Array Value) (s : State) : Prop := args = #[.ref b] ∧ s.IntsAt b xs ∧ xs.length ≤ 3072 ∧ (Jvm.Cond.and given_1 narrow_1).before args s = true
def lw_Q (_ : Array Value) (s : State) (o : Outcome) (t : State) : Prop := o = .returned (some (.int 1)) ∧ Framed s o t [] 600000 7302250
def lw_Z (below : List Frame) (a : Array Value) (s : State) : State → Prop := fun t => ∃ o, t.status = .running ∧ Ended t below o ∧ lw_Q a s o t
/-- the law's own end, with 1 on the stack, nothing written that was there before, its room as the claim has it -/
theorem lw_ret {p : Program} {l : Launch} {e : Env} {s : State} {m : MethodId} {below : List Frame} {meth : Method} {c : Code} {b : Nat} (hx : p.tables.exec = Jvm.exec) (hb : c.code = code) (hr : meth.sig.returnType = ret) (hlocks : meth.locks = false) {pc : Nat} {H : Heap} {ls : Array Slot} (hdg : decode code pc = .ok (.ireturn, 1)) : W p l e room_1 s m #[Value.ref b] below meth c H [] 600000 7302250 (lw_Z below #[Value.ref b] s) (F0 m pc ls [.int 1]) := by
  intro T hT X
  obtain ⟨fs, hret, hrun, hended, hW, hframe⟩ := X.leave (v := some (.int 1)) (hlocks := hlocks) (fun h => by rw [hr] at h; cases h)
  have hmeth' : T.vm.method? m = some meth := X.method'
  refine ⟨T.setFrames fs, ?_, .returned (some (.int 1)), hrun, hended, rfl, ⟨_, rfl⟩, hW, hframe⟩
  jvm_step X.here [X.here.top, hx, hb, hdg, hmeth', hr, ret, narrow_b1]
  (try refine ⟨rfl, ?_⟩); (try refine ⟨rfl, ?_⟩)
  first | (intro acts; rw [hret _ acts rfl rfl rfl]) | rw [hret _ _ rfl rfl rfl]
  exact Steps.refl _
/-- what holds at the law's entry: the machine, the code, the tables' words (any of lw_tbl by 'hts w (by decide +kernel)'), the script of L ints xs at the cell b, what the Statement gives of the start (any of its parts by flat_of_before) -/
def lw_At (p : Program) (s : State) (m : MethodId) (meth : Method) (c : Code) (b L : Nat) (xs : Nat → Int32) : Prop :=
  p.tables.exec = Jvm.exec ∧ c.code = code ∧ meth.sig.returnType = ret ∧ c.maxLocals = 4 ∧ s.vm.findClass R_law = some m.cls ∧ (∀ w ∈ lw_tbl, w.before #[Value.ref b] s = true) ∧ va_X b L xs s s.heap ∧ b < s.heap.size ∧ meth.locks = false ∧ (Jvm.Cond.and given_1 narrow_1).before #[Value.ref b] s = true
/-! what the Statement gives of the start -/
def pm_fA : Cond → List Cond → List Cond
  | .and a b, acc => pm_fA a (pm_fA b acc)
  | c, acc => c :: acc
theorem pm_fA_ok {args : Array Value} {s : State} (T : Cond) : T.before args s = true → ∀ acc c, c ∈ pm_fA T acc → c ∈ acc ∨ c.before args s = true := by
  induction T with
  | and a b iha ihb =>
    intro h acc c hc
    rw [Cond.before_and, Bool.and_eq_true] at h
    rcases iha h.1 _ c hc with g | g
    · exact ihb h.2 acc c g
    · exact Or.inr g
  | _ =>
    intro h acc c hc
    rcases List.mem_cons.mp hc with rfl | g
    · exact Or.inr h
    · exact Or.inl g
def pm_fl : List Cond := pm_fA (Cond.and given_1 narrow_1) []
def pm_strQ : List Nat := [39, 67, 75, 82, 90, 99, 109, 120, 132, 145, 212, 264, 281, 300, 318, 337, 357, 378, 400, 442, 467, 496, 523]
def pm_tm (i : Nat) : Term := .string "TrainBearers$Reader" (pm_strT.getD i (0, "")).1
def pm_ln (i : Nat) : Nat := (pm_strB.getD i []).length
theorem pm_str_ok : (List.range 23).all (fun i => decide (pm_ln i < 2 ^ 31) && decide (pm_fl[pm_strQ.getD i 0]? = some (Cond.exactly (pm_tm i) "java/lang/String")) && decide (pm_fl[pm_strQ.getD i 0 + 1]? = some (Cond.eq (.field (pm_tm i) "java/lang/String" "coder" "B") (.int 0))) && decide (pm_fl[pm_strQ.getD i 0 + 2]? = some (Cond.arrayOf (.field (pm_tm i) "java/lang/String" "value" "[B") .byte)) &&
    decide (pm_fl[pm_strQ.getD i 0 + 3]? = some (Cond.eq (.length (.field (pm_tm i) "java/lang/String" "value" "[B")) (.int (Int32.ofNat (pm_ln i))))) && (List.range (pm_ln i)).all (fun j => decide (pm_fl[pm_strQ.getD i 0 + 4 + j]? = some (Cond.eq (.elem (.field (pm_tm i) "java/lang/String" "value" "[B") (.int (Int32.ofNat j))) (.int ((pm_strB.getD i []).getD j 0))))) &&
    decide (lw_tbl[pm_strP.getD i 0]? = some (Cond.stringRef "TrainBearers$Reader" (pm_strT.getD i (0, "")).1 (pm_strT.getD i (0, "")).2))) = true := by decide +kernel
theorem pm_mt_in : Cond.arrayOf (.static "TrainBearers" "MOST_TERM" "[I") .int ∈ pm_fl ∧ Cond.eq (.length (.static "TrainBearers" "MOST_TERM" "[I")) (.int 3) ∈ pm_fl ∧ Cond.eq (.elem (.static "TrainBearers" "MOST_TERM" "[I") (.int 0)) (.int 999) ∈ pm_fl ∧ Cond.eq (.elem (.static "TrainBearers" "MOST_TERM" "[I") (.int 1)) (.int 10) ∈ pm_fl ∧ Cond.eq (.elem (.static "TrainBearers" "MOST_TERM" "[I") (.int 2)) (.int 9) ∈ pm_fl := by decide +kernel
theorem pm_cs_in : Cond.eq (.static "java/lang/String" "COMPACT_STRINGS" "Z") (.int 1) ∈ pm_fl ∧ Cond.isRef (.static "jdk/internal/util/Preconditions" "SIOOBE_FORMATTER" "Ljava/util/function/BiFunction;") ∈ pm_fl := by decide +kernel
theorem pm_ls_in : Cond.laysStatic "TrainBearers" "MOST_TERM" "[I" ∈ lw_tbl ∧ Cond.laysStatic "java/lang/String" "COMPACT_STRINGS" "Z" ∈ lw_tbl ∧ Cond.laysStatic "jdk/internal/util/Preconditions" "SIOOBE_FORMATTER" "Ljava/util/function/BiFunction;" ∈ lw_tbl ∧ Cond.initialized "TrainBearers" ∈ lw_tbl ∧ Cond.initialized "java/lang/String" ∈ lw_tbl ∧ Cond.initialized "jdk/internal/util/Preconditions" ∈ lw_tbl := by decide +kernel
theorem pm_ao_in : Cond.arrayOver (.object "TrainBearers$Text") ∈ lw_tbl ∧ Cond.arrayOver (.object "TrainBearers$Train") ∈ lw_tbl ∧ Cond.castable "[I" "java/lang/Cloneable" ∈ lw_tbl := by decide +kernel
theorem pm_gw_sub {w : Cond} (h : w ∈ pm_gw) : w ∈ lw_tbl := (List.mem_filter.mp h).1
theorem pm_nest_in {q : Nat × Nat × Nat} (h : q ∈ pm_nest) : Cond.methodLinkNest (pm_own q.1) q.2.1 (pm_y q.2.2) "TrainBearers" ∈ lw_tbl := by
  obtain ⟨e, he, hq⟩ := List.mem_filterMap.mp h
  by_cases h3 : e.2.2.1 = 3
  · rw [if_pos h3] at hq
    cases hq
    have := List.all_eq_true.mp pm_mlA_ok e he
    simp only [Bool.and_eq_true, decide_eq_true_eq] at this
    have h1 := this.1
    unfold pm_mw at h1
    rw [if_pos h3] at h1
    exact List.mem_of_getElem? h1
  · rw [if_neg h3] at hq
    cases hq
section ENT
variable {s : State} {b L : Nat} {xs : Nat → Int32}
theorem pm_lt_A (a : Nat) (h : a < s.heap.size) : ¬ pm_A s.heap.size a := by
  show ¬ s.heap.size ≤ a
  omega
theorem pm_arrP {ty : FieldType} (hw : (Cond.arrayClass ty).before #[Value.ref b] s = true) (hty : ∀ C, ty ≠ .object C) : ∃ cA, ArrOfT s cA ty ∧ va_RA s cA ty := by
  obtain ⟨cA, kA, comp, h1, h2, h3⟩ := Cond.arrayClass_spec hw
  refine ⟨cA, fun n z => ⟨fun k h => (by cases h), kA, h2, comp, h3⟩, ?_⟩
  cases ty with
  | object C => exact absurd rfl (hty C)
  | _ => exact h1
theorem pm_arrQ {C : String} (hw : (Cond.arrayOver (.object C)).before #[Value.ref b] s = true) : ∃ cA, ArrOfT s cA (.object C) ∧ va_RA s cA (.object C) := by
  obtain ⟨comp, cA, kA, h1, -, h2, h3, h4⟩ := Cond.arrayOver_spec hw
  exact ⟨cA, fun n z => ⟨fun k h => (by cases h), kA, h2, comp, h3⟩, kA, comp, h2, h3, h1, h4⟩
theorem pm_strs (hfl : ∀ w ∈ pm_fl, w.before #[Value.ref b] s = true) (hts : ∀ w ∈ lw_tbl, w.before #[Value.ref b] s = true) : ∃ adK adV : Nat → Nat, ∀ i, i < 23 → vk_R "TrainBearers$Reader" (pm_strT.getD i (0, "")).1 (pm_strT.getD i (0, "")).2 (adK i) s ∧ va_O "java/lang/String" (adK i) (pm_A s.heap.size) s s.heap ∧ va_OF "java/lang/String" "coder" "B" (.int 0) (adK i) (pm_A s.heap.size) s s.heap ∧ va_OF "java/lang/String" "value" "[B" (.ref (adV i)) (adK i) (pm_A s.heap.size) s s.heap ∧ va_T .byte (adV i) (pm_ln i) (fun j => .int ((pm_strB.getD i []).getD j 0)) (pm_A s.heap.size) s s.heap := by
  have h0 : ∀ i : Nat, ∃ q : Nat × Nat, i < 23 → vk_R "TrainBearers$Reader" (pm_strT.getD i (0, "")).1 (pm_strT.getD i (0, "")).2 q.1 s ∧ va_O "java/lang/String" q.1 (pm_A s.heap.size) s s.heap ∧ va_OF "java/lang/String" "coder" "B" (.int 0) q.1 (pm_A s.heap.size) s s.heap ∧ va_OF "java/lang/String" "value" "[B" (.ref q.2) q.1 (pm_A s.heap.size) s s.heap ∧ va_T .byte q.2 (pm_ln i) (fun j => .int ((pm_strB.getD i []).getD j 0)) (pm_A s.heap.size) s s.heap := by
    intro i
    by_cases hi : i < 23
    · have hk := List.all_eq_true.mp pm_str_ok i (List.mem_range.mpr hi)
      simp only [Bool.and_eq_true, decide_eq_true_eq, List.all_eq_true, List.mem_range] at hk
      obtain ⟨⟨⟨⟨⟨⟨k1, k2⟩, k3⟩, k4⟩, k5⟩, k6⟩, k7⟩ := hk
      replace k2 := List.mem_of_getElem? k2
      replace k3 := List.mem_of_getElem? k3
      replace k4 := List.mem_of_getElem? k4
      replace k5 := List.mem_of_getElem? k5
      replace k6 := fun j hj => List.mem_of_getElem? (k6 j hj)
      replace k7 := List.mem_of_getElem? k7
      obtain ⟨a, c, cA, kA, q1, q2, q3, q4, q5, q6, -⟩ := Cond.exactly_spec (args := #[Value.ref b]) (first := s) (o := none) (s := s) (idx := []) (t := pm_tm i) (cls := "java/lang/String") (hfl _ k2)
      obtain ⟨t, ht, hT⟩ := va_Tof (f := fun j => .int ((pm_strB.getD i []).getD j 0)) (A := pm_A s.heap.size) k1 (hfl _ k4) (va_eqt (hfl _ k5)) (fun j hj => va_eqt (hfl _ (k6 j hj))) pm_lt_A
      exact ⟨(a, t), fun _ => ⟨vk_R.of (hts _ k7) q1, ⟨cA, q3, q5, by rw [q6]; exact q2, pm_lt_A a (Array.getElem?_eq_some_iff.mp q3).1⟩, vk_OFof q1 (va_eqt (hfl _ k3)) pm_lt_A, vk_OFof q1 ht pm_lt_A, hT⟩⟩
    · exact ⟨(0, 0), fun h => absurd h hi⟩
  obtain ⟨ad, had⟩ := Classical.axiomOfChoice h0
  exact ⟨fun i => (ad i).1, fun i => (ad i).2, had⟩
def pm_adr (adK adV : Nat → Nat) (b mt : Nat) (k : Nat) : Nat := if k < 23 then adK k else if 100 ≤ k ∧ k < 123 then adV (k - 100) else if k = 200 then b else mt
theorem pm_enter (hts : ∀ w ∈ lw_tbl, w.before #[Value.ref b] s = true) (hX : va_X b L xs s s.heap) (hb : b < s.heap.size) (hgv : (Cond.and given_1 narrow_1).before #[Value.ref b] s = true) : ∃ (D : va_G) (dA : Nat → ClassId) (adr : Nat → Nat) (fo : Value), pm_F s.heap.size D dA adr fo L xs s ∧ adr 200 = b := by
  have hfl : ∀ w ∈ pm_fl, w.before #[Value.ref b] s = true := fun w hw => (pm_fA_ok _ hgv [] w hw).resolve_left (fun g => by cases g)
  obtain ⟨adK, adV, hstr⟩ := pm_strs hfl hts
  obtain ⟨m1, m2, m3, m4, m5⟩ := pm_mt_in
  obtain ⟨z1, z2⟩ := pm_cs_in
  obtain ⟨l1, l2, l3, l4, l5, l6⟩ := pm_ls_in
  obtain ⟨o1, o2, o3⟩ := pm_ao_in
  obtain ⟨mt, hmt, hmT⟩ := va_Tof (N := 3) (f := fun j => .int ([999, 10, 9].getD j 0)) (A := pm_A s.heap.size) (by decide) (hfl _ m1) (va_eqt (hfl _ m2)) (fun j hj => by
    match j, hj with
    | 0, _ => exact va_eqt (hfl _ m3)
    | 1, _ => exact va_eqt (hfl _ m4)
    | 2, _ => exact va_eqt (hfl _ m5)
    | n + 3, h => exact absurd h (by omega)) pm_lt_A
  obtain ⟨fo, hfo, hfr⟩ := Cond.isRef_spec (hfl _ z2)
  obtain ⟨c0, a0⟩ := pm_arrP (hts _ (pm_gw_sub pm_ac0)) (by rintro C ⟨⟩)
  obtain ⟨c1, a1⟩ := pm_arrP (hts _ (pm_gw_sub pm_ac1)) (by rintro C ⟨⟩)
  obtain ⟨c2, a2⟩ := pm_arrP (hts _ (pm_gw_sub pm_ac2)) (by rintro C ⟨⟩)
  obtain ⟨c3, a3⟩ := pm_arrQ (hts _ o1)
  obtain ⟨c4, a4⟩ := pm_arrQ (hts _ o2)
  have hcl : ∀ ci : Nat, ∃ z : ClassId × (Nat → Nat), ∀ q : vw_C, pm_cls[ci]? = some q → u_Kn s q.1 q.2.1 q.2.2 z.1 z.2 := by
    intro ci
    cases hq : pm_cls[ci]? with
    | none => exact ⟨(0, fun _ => 0), fun q h => by cases h⟩
    | some q =>
      obtain ⟨w1, w2, w3⟩ := pm_cls_ok hq
      obtain ⟨cC, iS, hk⟩ := u_known (ws := lw_tbl) hts (fun w hw => pm_gw_sub (w1 w hw)) (hts _ (pm_gw_sub w3))
      exact ⟨(cC, iS), fun q' h => by cases h; exact hk⟩
  obtain ⟨zD, hD⟩ := Classical.axiomOfChoice hcl
  refine ⟨(fun i => (zD i).1, fun i => (zD i).2), fun t => [c0, c1, c2, c3, c4].getD t 0, pm_adr adK adV b mt, fo, ⟨⟨fun ci q hq => hD ci q hq, fun k q hk => ?_⟩, fun k t n f hk => ?_, fun i hi => ?_, va_AO.of (hts _ o1), va_AO.of (hts _ o2), fun q hq => va_Nw.of rfl (hts _ (pm_nest_in hq)), va_Nw.of rfl (hts _ o3), ?_, ?_, ?_, ?_, Nat.le_refl _⟩, rfl⟩
  · match k, hk with
    | 0, hk => cases hk; exact a0
    | 1, hk => cases hk; exact a1
    | 2, hk => cases hk; exact a2
    | 3, hk => cases hk; exact a3
    | 4, hk => cases hk; exact a4
    | n + 5, hk => cases hk
  · unfold pm_sX at hk
    cases h1 : (k == 200) with
    | true =>
      have h1 : k = 200 := by simpa using h1
      subst h1
      cases hk
      obtain ⟨scr, g1, g2, g3, g4, g5⟩ := hX
      exact ⟨scr, g1, g2, g3, by rw [g4]; exact Nat.le_refl _, by rw [g4], g5, pm_lt_A b hb⟩
    | false =>
      rw [h1] at hk
      cases h2 : (k == 201) with
      | true =>
        have h2 : k = 201 := by simpa using h2
        subst h2
        cases hk
        exact hmT
      | false =>
        rw [h2] at hk
        cases h3 : (decide (100 ≤ k) && decide (k < 123)) with
        | true =>
          rw [h3] at hk
          cases hk
          rw [Bool.and_eq_true, decide_eq_true_eq, decide_eq_true_eq] at h3
          have hs := (hstr (k - 100) (by omega)).2.2.2.2
          have e : pm_adr adK adV b mt k = adV (k - 100) := by
            unfold pm_adr
            rw [if_neg (by omega), if_pos h3]
          rw [e]
          exact hs
        | false => rw [h3] at hk; cases hk
  · have e1 : pm_adr adK adV b mt i = adK i := by unfold pm_adr; rw [if_pos hi]
    have e2 : pm_adr adK adV b mt (100 + i) = adV i := by
      unfold pm_adr
      rw [if_neg (by omega), if_pos ⟨by omega, by omega⟩, Nat.add_sub_cancel_left]
    rw [e1, e2]
    obtain ⟨s1, s2, s3, s4, -⟩ := hstr i hi
    exact ⟨s1, s2, s3, s4⟩
  · exact va_Zof (hts _ l1) (hts _ l4) hmt pm_lt_A
  · exact va_Zof (hts _ l2) (hts _ l5) (va_eqi (hfl _ z1)) pm_lt_A
  · exact va_Zof (hts _ l3) (hts _ l6) hfo pm_lt_A
  · cases fo with
    | ref q => exact Or.inr ⟨q, rfl⟩
    | null => exact Or.inl rfl
    | _ => cases hfr
end ENT
/-! the law's own frame -/
theorem pm_rokL : pm_cL.all (pm_rokB 12) = true := by decide +kernel
theorem pm_decL : ∀ e ∈ pm_cL, decode code e.1 = .ok (e.2.1, e.2.2.1) := by
  have g : ∀ (l : List pm_I), l.all (pm_decB code) = true → ∀ e ∈ l, decode code e.1 = .ok (e.2.1, e.2.2.1) := fun l hl e he => by
    have := List.all_eq_true.mp hl e he
    simpa [pm_decB] using this
  exact List.forall_mem_append.mpr ⟨g _ pm_dL0, List.forall_mem_append.mpr ⟨g _ pm_dL1, List.forall_mem_append.mpr ⟨g _ pm_dL2, List.forall_mem_append.mpr ⟨g _ pm_dL3, List.forall_mem_append.mpr ⟨g _ pm_dL4, List.forall_mem_append.mpr ⟨g _ pm_dL5, List.forall_mem_append.mpr ⟨g _ pm_dL6, List.forall_mem_append.mpr ⟨g _ pm_dL7, List.forall_mem_append.mpr ⟨g _ pm_dL8, List.forall_mem_append.mpr ⟨g _ pm_dL9, List.forall_mem_append.mpr ⟨g _ pm_dL10, List.forall_mem_append.mpr ⟨g _ pm_dL11, g _ pm_dL12⟩⟩⟩⟩⟩⟩⟩⟩⟩⟩⟩⟩
theorem pm_retL : ret = some .boolean := rfl
def pm_h0 : pm_H := (0, 0, fun _ => .inl (0, 0, .inl (fun _ => 0)))
section LAWF
variable {p : Program} {l : Launch} {e : Env} {s : State} {m : MethodId} {below : List Frame} {meth : Method} {c : Code} {b : Nat}
variable {base : Nat} {D : va_G} {dA : Nat → ClassId} {adr : Nat → Nat} {fo : Value} {L : Nat} {xs : Nat → Int32} {d : Nat} {call : Nat → List Value → pm_H → Option pm_R} {hf : pm_H}
theorem pm_law_K (fx : pm_Fx p s m #[Value.ref b] meth c code 4 12 false base D dA adr fo L xs 0) (hC : pm_Call l base D dA adr fo L xs d call) (hd : d ≤ 1000) (hret : meth.sig.returnType = ret) (hlk : meth.locks = false) (hz1 : hf.1 ≤ 600000) (hz2 : hf.2.1 ≤ 7302250) (n : Nat) :
    ∀ t : pm_S, pm_ey (pm_sX L xs) call 12 false (some .boolean) pm_cL n t = some (hf, some (.int 1)) → t.2.2.2.1 ≤ hf.1 ∧ t.2.2.2.2.1 ≤ hf.2.1 ∧ pm_K p l e room_1 s m #[Value.ref b] below meth c (lw_Z below #[Value.ref b] s) base D dA adr fo 4 0 0 t := by
  induction n with
  | zero => intro t ht; cases ht
  | succ n ih =>
    rintro ⟨pc, ls, st, h⟩ ht
    replace ht : (match pm_find pm_cL pc with
      | none => none
      | some e => match pm_step (pm_sX L xs) call 12 false (some .boolean) pc ls st h e.1 e.2.1 e.2.2.1 e.2.2.2.1 e.2.2.2.2 with
        | none => none
        | some (.inr r) => bif pm_isRet e.1 && decide (h.1 ≤ r.1.1) && decide (h.2.1 ≤ r.1.2.1) then some r else none
        | some (.inl s') => bif decide (h.1 ≤ s'.2.2.2.1) && decide (h.2.1 ≤ s'.2.2.2.2.1) then pm_ey (pm_sX L xs) call 12 false (some .boolean) pm_cL n s' else none) = some (hf, some (.int 1)) := ht
    split at ht
    · cases ht
    · next q hfnd =>
      have hmem := pm_find_mem hfnd
      have hdc := pm_decL _ hmem
      have hr := List.all_eq_true.mp pm_rokL _ hmem
      obtain ⟨i, len, a, b1, v⟩ := q
      split at ht
      · cases ht
      · next r1 hst =>
        cases hg : (pm_isRet i && decide (h.1 ≤ r1.1.1) && decide (h.2.1 ≤ r1.1.2.1)) with
        | false => rw [hg] at ht; cases ht
        | true =>
          rw [hg] at ht
          have ht : some r1 = some (hf, some (.int 1)) := ht
          obtain rfl := Option.some.inj ht
          rw [Bool.and_eq_true, Bool.and_eq_true, decide_eq_true_eq, decide_eq_true_eq] at hg
          refine ⟨hg.1.2, hg.2, ?_⟩
          have hfin : i = .ireturn ∧ len = 1 ∧ st = [.int 1] := by
            rcases pm_isRet_or hg.1.1 with rfl | rfl | rfl | rfl
            · refine ⟨rfl, pm_len1 hr rfl, ?_⟩
              replace hst : pm_rI (some .boolean) st h = some (.inr (hf, some (.int 1))) := hst
              unfold pm_rI at hst
              split at hst
              · next x =>
                cases hx : pm_ret (some .boolean) x with
                | false => rw [hx] at hst; cases hst
                | true => rw [hx] at hst; cases hst; rfl
              · cases hst
            · exfalso
              replace hst : pm_rL (some .boolean) st h = some (.inr (hf, some (.int 1))) := hst
              unfold pm_rL at hst
              split at hst
              · cases hst
              · cases hst
            · exfalso
              replace hst : pm_rA (some .boolean) st h = some (.inr (hf, some (.int 1))) := hst
              unfold pm_rA at hst
              split at hst <;> first | cases hst | contradiction
            · exfalso
              replace hst : pm_rV (some .boolean) st h = some (.inr (hf, some (.int 1))) := hst
              unfold pm_rV at hst
              split at hst <;> cases hst
          obtain ⟨rfl, rfl, rfl⟩ := hfin
          intro H locs lsA hW hS hl hn hz hc hs
          have h1 : h.1 ≤ hf.1 := hg.1.2
          have h2 : h.2.1 ≤ hf.2.1 := hg.2
          refine va_forget (fun q hq => ?_) ?_
          · have := hS.2.2 q hq
            have hsz := fx.2.2.2.2.2.2.2
            have : base ≤ q.base := this
            omega
          · refine W.widen (k := 600000) (n := 7302250) (by show h.1 - 0 ≤ 600000; omega) (by show h.2.1 - 0 ≤ 7302250; omega) ?_
            exact lw_ret fx.1 fx.2.1 hret hlk hdc
      · next s' hst =>
        cases hg : (decide (h.1 ≤ s'.2.2.2.1) && decide (h.2.1 ≤ s'.2.2.2.2.1)) with
        | false => rw [hg] at ht; cases ht
        | true =>
          rw [hg] at ht
          rw [Bool.and_eq_true, decide_eq_true_eq, decide_eq_true_eq] at hg
          obtain ⟨l1, l2, k⟩ := ih s' ht
          refine ⟨Nat.le_trans hg.1 l1, Nat.le_trans hg.2 l2, ?_⟩
          exact pm_t_all fx hC (by show d + 1 ≤ 2048; omega) (by show 64 * d + 64 ≤ 84000; omega) hdc hr hst (by show s'.2.2.2.1 - 0 ≤ 600000; omega) (by show s'.2.2.2.2.1 - 0 ≤ 7302250; omega) k
end LAWF
/-- the law's walk, out of one run of the pure machine -/
theorem pm_start {p : Program} {e : Env} {s : State} {m : MethodId} {below : List Frame} {meth : Method} {c : Code} (l : Launch) {b L : Nat} {xs : Nat → Int32} (C0 : lw_At p s m meth c b L xs) {n d : Nat} {hf : pm_H} (hd : d ≤ 1000) (hz1 : hf.1 ≤ 600000) (hz2 : hf.2.1 ≤ 7302250)
    (hrun : pm_ey (pm_sX L xs) (pm_rn (pm_sX L xs) n d) 12 false (some .boolean) pm_cL n (0, [some (.retAddr 200), none, none, none], [], pm_h0) = some (hf, some (.int 1))) :
    W p l e room_1 s m #[Value.ref b] below meth c s.heap [] 0 0 (lw_Z below #[Value.ref b] s) (entryFrame m ([Value.ref b] : List Value).toArray 4) := by
  obtain ⟨hx, hb, hr, hml, hown, hts, hX, hbl, hlk, hgv⟩ := C0
  obtain ⟨D, dA, adr, fo, hF, hadr⟩ := pm_enter hts hX hbl hgv
  have fx : pm_Fx p s m #[Value.ref b] meth c code 4 12 false s.heap.size D dA adr fo L xs 0 := ⟨hx, hb, hml, hown, fun w hw => hts w (pm_gw_sub hw), (fun h => by cases h), hF, rfl⟩
  obtain ⟨-, -, k⟩ := pm_law_K (l := l) (e := e) (below := below) fx (pm_rn_Met n d) hd hr hlk hz1 hz2 n _ hrun
  rw [lg_entry_eq]
  have hent := lv_entry [Value.ref b] (n := 4) (by show (1 : Nat) ≤ 4; decide)
  have hb200 : pm_emb s.heap.size adr fo (.retAddr 200) = .ref b := by
    show (bif 200 == 300 then fo else Value.ref (adr 200)) = _
    rw [hadr]
    rfl
  exact k s.heap [] _ ⟨rfl, fun k hk => absurd hk (Nat.not_lt_zero k)⟩ ⟨Nat.le_refl _, fun _ _ _ => rfl, fun _ g => by cases g⟩ (by
    refine pm_has_mono hent (fun z hz => ?_)
    obtain ⟨z1, v, z2, z3⟩ := pm_lvl_mem.mp hz
    have z1 : z.1 < 4 := z1
    have hz0 : z.1 = 0 := by
      match h : z.1, z1, z2 with
      | 0, _, _ => rfl
      | 1, _, z2 => cases z2
      | 2, _, z2 => cases z2
      | 3, _, z2 => cases z2
      | n + 4, h, _ => exact absurd h (by omega)
    rw [hz0] at z2
    cases z2
    rw [hb200] at z3
    have : z = (0, Value.ref b) := Prod.ext hz0 z3
    rw [this]
    exact List.mem_cons_self) (fun k x hx => by
    match k, hx with
    | 0, hx => cases hx
    | 1, hx => cases hx
    | 2, hx => cases hx
    | 3, hx => cases hx
    | n + 4, hx => cases hx) rfl (Nat.le_refl _) (Nat.le_refl _)
