/-! the evaluator's step and run -/
def ev_SR (L : Nat) (xs : Nat → Int32) (E : ev_E) (cE : ev_Ca) (cP : Nat → List Value → pm_H → Option pm_R) (o : Nat) (ini : Bool) (ret : Option FieldType) (nL pc : Nat) (i : Instr) (len a b : Nat) (v : Value) (F : ev_F) : Prop :=
  ∀ ls st h ph r, ev_RH xs h ph → F cE E ls st h = some (.inr r) → ∃ pr, pm_step (pm_sX L xs) cP o ini ret pc (ls.map (ev_dL xs)) (st.map (ev_dV xs)) ph i len a b v = some (.inr pr) ∧ ev_RR xs r pr
theorem ev_cr {c : Bool} {x : ev_O} {y : ev_S ⊕ ev_R} (h : cond c x none = some y) : c = true ∧ x = some y := ev_c h
theorem ev_co2 {c : Bool} {F G : ev_F} (h : cond c (some F) none = some G) : c = true ∧ F = G := by
  cases c with
  | true => exact ⟨rfl, Option.some.inj h⟩
  | false => cases h
def ev_fA (ret : Option FieldType) : Option ev_F := match ret with
  | some (.object _) => some ev_rA
  | some (.array _) => some ev_rA
  | _ => none
def ev_fV (ret : Option FieldType) : Option ev_F := match ret with
  | none => some ev_rV
  | _ => none
section EVR
variable {L : Nat} {xs : Nat → Int32} {E : ev_E} {cE : ev_Ca} {cP : Nat → List Value → pm_H → Option pm_R} {o : Nat} {ini : Bool} {ret : Option FieldType} {nL pc len a b : Nat} {v : Value} {F : ev_F}
theorem ev_byte : (List.range 128).all (fun x => decide ((Int32.ofNat x).toInt8.toInt32 = Int32.ofNat x)) = true := by decide +kernel
theorem ev_r_i : ev_SR L xs E cE cP o ini ret nL pc .ireturn len a b v (ev_rI (ev_rk ret)) := by
  intro ls st h ph r hH hs
  unfold ev_rI at hs
  split at hs
  · next t x =>
    obtain ⟨g1, h2⟩ := ev_c hs
    obtain ⟨g2, h3⟩ := ev_c h2
    cases h3
    have hi := ev_dVi (xs := xs) (t := t) (p := x) (ev_be g1)
    have hret : pm_ret ret (ev_int xs (t, x)) = true := by
      cases ret with
      | none => cases g2
      | some ty =>
        cases ty with
        | int => rfl
        | boolean =>
          have g2 : (Nat.beq t 0 && Nat.ble x 1) = true := g2
          rw [Bool.and_eq_true] at g2
          obtain rfl := ev_be g2.1
          have := ev_le g2.2
          match x, this with
          | 0, _ => rfl
          | 1, _ => rfl
          | n + 2, h => exact absurd h (by omega)
        | byte =>
          have g2 : (Nat.beq t 0 && Nat.ble x 127) = true := g2
          rw [Bool.and_eq_true] at g2
          obtain rfl := ev_be g2.1
          have hx := ev_le g2.2
          have hb := of_decide_eq_true (List.all_eq_true.mp ev_byte x (List.mem_range.mpr (by omega)))
          show decide (narrow .byte (.int (Int32.ofNat x)) = .int (Int32.ofNat x)) = true
          refine decide_eq_true ?_
          show Value.int (Int32.ofNat x).toInt8.toInt32 = .int (Int32.ofNat x)
          rw [hb]
        | char =>
          have g2 : (Nat.beq t 0 && Nat.blt x 65536) = true := g2
          rw [Bool.and_eq_true] at g2
          obtain rfl := ev_be g2.1
          have hx := ev_lt g2.2
          show decide (narrow .char (.int (Int32.ofNat x)) = .int (Int32.ofNat x)) = true
          refine decide_eq_true ?_
          show Value.int ((Int32.ofNat x).toUInt32.toUInt16.toUInt32.toInt32) = .int (Int32.ofNat x)
          congr 1
          rw [Int32.toUInt32_ofNat']
          have e : (UInt32.ofNat x).toUInt16.toUInt32 = UInt32.ofNat x := by
            apply UInt32.toNat_inj.mp
            rw [UInt16.toNat_toUInt32, UInt32.toNat_toUInt16, UInt32.toNat_ofNat']
            omega
          rw [e]
          exact UInt32.toInt32_ofNat'
        | _ => cases g2
    refine ⟨(ph, some (ev_dV xs (t, x))), ?_, hH, rfl⟩
    show pm_rI ret [ev_dV xs (t, x)] ph = _
    rw [hi]
    show (bif pm_ret ret (ev_int xs (t, x)) then some (Sum.inr (ph, some (Value.int (ev_int xs (t, x))))) else none) = _
    rw [hret]
    rfl
  · cases hs
theorem ev_r_l (hr : ret = some .long) : ev_SR L xs E cE cP o ini ret nL pc .lreturn len a b v ev_rL := by
  intro ls st h ph r hH hs
  unfold ev_rL at hs
  split at hs
  · next t x =>
    obtain ⟨g1, h2⟩ := ev_c hs
    cases h2
    refine ⟨(ph, some (ev_dV xs (t, x))), ?_, hH, rfl⟩
    show pm_rL ret [ev_dV xs (t, x)] ph = _
    rw [ev_dVl (ev_be g1), hr]
    rfl
  · cases hs
theorem ev_r_a (hr : (∃ C, ret = some (.object C)) ∨ ∃ C, ret = some (.array C)) : ev_SR L xs E cE cP o ini ret nL pc .areturn len a b v ev_rA := by
  intro ls st h ph r hH hs
  unfold ev_rA at hs
  split at hs
  · next t x =>
    obtain ⟨g1, h2⟩ := ev_c hs
    cases h2
    refine ⟨(ph, some (ev_dV xs (t, x))), ?_, hH, rfl⟩
    show pm_rA ret [ev_dV xs (t, x)] ph = _
    rw [Bool.or_eq_true] at g1
    rcases g1 with g | g
    · obtain rfl := ev_be g
      rcases hr with ⟨C, rfl⟩ | ⟨C, rfl⟩ <;> rfl
    · obtain rfl := ev_be g
      rw [ev_dVn]
      rcases hr with ⟨C, rfl⟩ | ⟨C, rfl⟩ <;> rfl
  · cases hs
theorem ev_r_v (hr : ret = none) : ev_SR L xs E cE cP o ini ret nL pc .return_ len a b v ev_rV := by
  intro ls st h ph r hH hs
  unfold ev_rV at hs
  split at hs
  · cases hs
    refine ⟨(ph, none), ?_, hH, rfl⟩
    show pm_rV ret [] ph = _
    rw [hr]
    rfl
  · cases hs
theorem ev_na1_eq {q : pm_M} (hq : pm_mtL[b]? = some q) : ev_na1 b = q.2.2.2.2.2.1 := by unfold ev_na1; rw [hq]
theorem ev_co_eq {q : pm_M} (hq : pm_mtL[b]? = some q) : ev_co b = q.2.2.2.2.1 := by unfold ev_co; rw [hq]
theorem ev_inv_some {n kind na ci : Nat} {ls st : List ev_V} {h : ev_H} {s' : ev_S} (hC : ∀ as h r, cE b as h = some r → ∃ q, pm_mtL[b]? = some q) (hs : ev_inv n kind b na ci cE E ls st h = some (.inl s')) : ∃ q, pm_mtL[b]? = some q := by
  obtain ⟨-, -, -, h', r, hc, -⟩ := ev_inv_inv hs
  exact hC _ _ _ hc
theorem ev_t_call {ik ix : Nat} (hC : ev_SC xs cE cP) (hM : ∀ as h r, cE b as h = some r → ∃ q, pm_mtL[b]? = some q) (hF : ev_call ik pc a b = some F) {i : Instr} (hi : (ik = 0 ∧ i = .invokevirtual ix) ∨ (ik = 1 ∧ i = .invokestatic ix) ∨ (ik = 2 ∧ i = .invokespecial ix)) : ev_SI L xs E cE cP o ini ret nL pc i len a b v F := by
  have hstep : ∀ (ls : pm_Ls) (st : List Value) (ph : pm_H), pm_step (pm_sX L xs) cP o ini ret pc ls st ph i len a b v = pm_inv (pm_sX L xs) cP ik pc ls st ph a b := by
    intro ls st ph
    rcases hi with ⟨rfl, rfl⟩ | ⟨rfl, rfl⟩ | ⟨rfl, rfl⟩ <;> rfl
  unfold ev_call at hF
  split at hF
  · obtain ⟨g, rfl⟩ := ev_co2 hF
    have g := ev_be g
    rcases hi with ⟨rfl, rfl⟩ | ⟨rfl, rfl⟩ | ⟨rfl, rfl⟩
    · cases g
    · cases g
    · exact ev_t_oi
  · obtain ⟨g, rfl⟩ := ev_co2 hF
    have g := ev_be g
    rcases hi with ⟨rfl, rfl⟩ | ⟨rfl, rfl⟩ | ⟨rfl, rfl⟩
    · cases g
    · exact ev_t_acp
    · cases g
  · cases hg : Nat.beq ik 0 with
    | false => rw [hg] at hF; cases hF
    | true =>
      rw [hg, cond_true] at hF
      obtain ⟨g2, rfl⟩ := ev_co2 hF
      intro ls st h ph s' hl hH hs
      obtain ⟨q, hq⟩ := ev_inv_some hM hs
      rw [ev_na1_eq hq] at hs
      rw [hstep]
      exact ev_call_ok hC hq (pm_mt_ok hq) hl hH (Or.inl ⟨rfl, ev_be hg, ev_lt g2, ev_co_eq hq⟩) hs
  · obtain ⟨g, rfl⟩ := ev_co2 hF
    intro ls st h ph s' hl hH hs
    obtain ⟨q, hq⟩ := ev_inv_some hM hs
    rw [ev_na1_eq hq] at hs
    rw [hstep]
    exact ev_call_ok hC hq (pm_mt_ok hq) hl hH (Or.inr (Or.inl ⟨rfl, ev_be g⟩)) hs
  · cases hg : Nat.beq ik 2 with
    | false => rw [hg] at hF; cases hF
    | true =>
      rw [hg, cond_true] at hF
      obtain ⟨g2, rfl⟩ := ev_co2 hF
      intro ls st h ph s' hl hH hs
      obtain ⟨q, hq⟩ := ev_inv_some hM hs
      rw [ev_na1_eq hq] at hs
      rw [hstep]
      exact ev_call_ok hC hq (pm_mt_ok hq) hl hH (Or.inr (Or.inr (Or.inl ⟨rfl, ev_be hg, ev_lt g2, ev_co_eq hq⟩))) hs
  · obtain ⟨g, rfl⟩ := ev_co2 hF
    intro ls st h ph s' hl hH hs
    obtain ⟨q, hq⟩ := ev_inv_some hM hs
    rw [ev_na1_eq hq] at hs
    rw [hstep]
    exact ev_call_ok hC hq (pm_mt_ok hq) hl hH (Or.inr (Or.inr (Or.inr ⟨Or.inl rfl, ev_be g⟩))) hs
  · obtain ⟨g, rfl⟩ := ev_co2 hF
    intro ls st h ph s' hl hH hs
    obtain ⟨q, hq⟩ := ev_inv_some hM hs
    rw [ev_na1_eq hq] at hs
    rw [hstep]
    exact ev_call_ok hC hq (pm_mt_ok hq) hl hH (Or.inr (Or.inr (Or.inr ⟨Or.inr rfl, ev_be g⟩))) hs
  · cases hF
theorem ev_tr_I {i : Instr} (hE : ev_sat E L xs) (hC : ev_SC xs cE cP) (hM : ∀ as h r, cE b as h = some r → ∃ q, pm_mtL[b]? = some q) (hnr : pm_isRet i = false) (hF : ev_tr o ini ret nL pc i a b v = some F) : ev_SI L xs E cE cP o ini ret nL pc i len a b v F := by
  cases i with
  | aconst_null => cases hF; exact ev_t_aconst_null
  | pop => cases hF; exact ev_t_pop
  | dup => cases hF; exact ev_t_dup
  | dup2 => cases hF; exact ev_t_dup2
  | iadd => cases hF; exact ev_t_iadd
  | isub => cases hF; exact ev_t_isub
  | imul => cases hF; exact ev_t_imul
  | ior => cases hF; exact ev_t_ior
  | ixor => cases hF; exact ev_t_ixor
  | ishl => cases hF; exact ev_t_ishl
  | iushr => cases hF; exact ev_t_iushr
  | ishr => cases hF; exact ev_t_ishr
  | idiv => cases hF; exact ev_t_idiv
  | irem => cases hF; exact ev_t_irem
  | ineg => cases hF; exact ev_t_ineg
  | i2c => cases hF; exact ev_t_i2c
  | ladd => cases hF; exact ev_t_ladd
  | lsub => cases hF; exact ev_t_lsub
  | lmul => cases hF; exact ev_t_lmul
  | l2i => cases hF; exact ev_t_l2i
  | i2l => cases hF; exact ev_t_i2l
  | baload => cases hF; exact ev_t_baload
  | laload => cases hF; exact ev_t_laload
  | aaload => cases hF; exact ev_t_aaload
  | iastore => cases hF; exact ev_t_iastore
  | bastore => cases hF; exact ev_t_bastore
  | lastore => cases hF; exact ev_t_lastore
  | aastore => cases hF; exact ev_t_aastore
  | iand => cases hF; exact ev_t_iand hE
  | lcmp => cases hF; exact ev_t_lcmp hE
  | arraylength => cases hF; exact ev_t_arraylength hE
  | iaload => cases hF; exact ev_t_iaload hE
  | iconst _ => cases hF; exact ev_t_iconst
  | lconst _ => cases hF; exact ev_t_lconst
  | bipush _ => cases hF; exact ev_t_bipush
  | sipush _ => cases hF; exact ev_t_sipush
  | iload _ => cases hF; exact ev_t_iload
  | iload_n _ => cases hF; exact ev_t_iload_n
  | lload _ => cases hF; exact ev_t_lload
  | lload_n _ => cases hF; exact ev_t_lload_n
  | aload _ => cases hF; exact ev_t_aload
  | aload_n _ => cases hF; exact ev_t_aload_n
  | getstatic _ => cases hF; exact ev_t_getstatic
  | goto _ => cases hF; exact ev_t_goto
  | ifnull _ => cases hF; exact ev_t_ifnull
  | ifnonnull _ => cases hF; exact ev_t_ifnonnull
  | ifCond _ _ => cases hF; exact ev_t_ifCond hE
  | if_icmp _ _ => cases hF; exact ev_t_if_icmp hE
  | istore _ =>
    obtain ⟨g, rfl⟩ := ev_co2 hF
    exact ev_t_istore (ev_lt g)
  | istore_n _ =>
    obtain ⟨g, rfl⟩ := ev_co2 hF
    exact ev_t_istore_n (ev_lt g)
  | lstore _ =>
    obtain ⟨g, rfl⟩ := ev_co2 hF
    exact ev_t_lstore (ev_lt g)
  | lstore_n _ =>
    obtain ⟨g, rfl⟩ := ev_co2 hF
    exact ev_t_lstore_n (ev_lt g)
  | astore _ =>
    obtain ⟨g, rfl⟩ := ev_co2 hF
    exact ev_t_astore (ev_lt g)
  | astore_n _ =>
    obtain ⟨g, rfl⟩ := ev_co2 hF
    exact ev_t_astore_n (ev_lt g)
  | iinc _ _ =>
    obtain ⟨g, rfl⟩ := ev_co2 hF
    exact ev_t_iinc (ev_lt g)
  | ldc _ =>
    obtain ⟨g, rfl⟩ := ev_co2 hF
    refine ev_t_ldc ?_
    rw [Bool.or_eq_true] at g
    rcases g with g | g
    · obtain rfl := ev_be g; rfl
    · obtain rfl := ev_be g; rfl
  | ldc_w _ =>
    obtain ⟨g, rfl⟩ := ev_co2 hF
    obtain rfl := ev_be g
    exact ev_t_ldc_w rfl
  | ldc2_w _ =>
    obtain ⟨g, rfl⟩ := ev_co2 hF
    obtain rfl := ev_be g
    exact ev_t_ldc2_w rfl
  | tableswitch _ _ _ _ =>
    obtain ⟨g, rfl⟩ := ev_co2 hF
    simp only [Bool.and_eq_true, decide_eq_true_eq] at g
    exact ev_t_tableswitch hE g.1.1 g.1.2 g.2
  | getfield _ =>
    replace hF : cond (Nat.beq a 100) (some (ev_gs (Nat.add pc 3) b)) (cond (Nat.blt b (pm_cn a)) (some (ev_gf (Nat.add pc 3) a b)) none) = some F := hF
    cases hg : Nat.beq a 100 with
    | true =>
      rw [hg, cond_true] at hF
      cases hF
      obtain rfl := ev_be hg
      exact ev_t_getfieldS
    | false =>
      rw [hg, cond_false] at hF
      obtain ⟨g, rfl⟩ := ev_co2 hF
      exact ev_t_getfield (fun q => by rw [ev_bt q] at hg; cases hg) (ev_lt g)
  | putfield _ =>
    obtain ⟨g, rfl⟩ := ev_co2 hF
    rw [Bool.and_eq_true] at g
    refine ev_t_putfield (ev_lt g.1) ?_
    rw [Bool.or_eq_true] at g ⊢
    rcases g.2 with g2 | g2
    · exact Or.inl g2
    · rw [Bool.and_eq_true, Bool.and_eq_true] at g2
      obtain rfl := ev_be g2.2.1
      have h1 := List.all_eq_true.mp ev_co_ok a (List.mem_range.mpr (ev_lt g2.2.2))
      exact Or.inr (by rw [g2.1]; exact h1)
  | new _ =>
    obtain ⟨g, rfl⟩ := ev_co2 hF
    exact ev_t_new (ev_lt g)
  | newarray t =>
    cases t with
    | int => cases hF; exact ev_t_na_int
    | long => cases hF; exact ev_t_na_long
    | boolean => cases hF; exact ev_t_na_boolean
    | _ => cases hF
  | anewarray _ =>
    obtain ⟨g, rfl⟩ := ev_co2 hF
    exact ev_t_anewarray (ev_k34 g).1
  | invokevirtual ix => exact ev_t_call hC hM hF (Or.inl ⟨rfl, rfl⟩)
  | invokestatic ix => exact ev_t_call hC hM hF (Or.inr (Or.inl ⟨rfl, rfl⟩))
  | invokespecial ix => exact ev_t_call hC hM hF (Or.inr (Or.inr ⟨rfl, rfl⟩))
  | ireturn => cases hnr
  | lreturn => cases hnr
  | areturn => cases hnr
  | return_ => cases hnr
  | _ => cases hF
theorem ev_tr_R {i : Instr} (hr : pm_isRet i = true) (hF : ev_tr o ini ret nL pc i a b v = some F) : ev_SR L xs E cE cP o ini ret nL pc i len a b v F := by
  rcases pm_isRet_or hr with rfl | rfl | rfl | rfl
  · cases hF; exact ev_r_i
  · obtain ⟨g, rfl⟩ := ev_co2 hF
    exact ev_r_l (of_decide_eq_true g)
  · replace hF : ev_fA ret = some F := hF
    unfold ev_fA at hF
    split at hF
    · cases hF; exact ev_r_a (Or.inl ⟨_, rfl⟩)
    · cases hF; exact ev_r_a (Or.inr ⟨_, rfl⟩)
    · cases hF
  · replace hF : ev_fV ret = some F := hF
    unfold ev_fV at hF
    split at hF
    · cases hF; exact ev_r_v rfl
    · cases hF
/-! the table of a method -/
theorem ev_bld_mem {l : List pm_I} (hne : l ≠ []) (k n : Nat) : (ev_bld k l).get n ∈ l := by
  induction k generalizing l with
  | zero =>
    cases l with
    | nil => exact absurd rfl hne
    | cons e t => exact List.mem_cons_self
  | succ k ih =>
    have e : ev_bld (k + 1) l = (match l.drop (Nat.pow 2 k) with
      | [] => ev_bld k l
      | e :: t => .branch e.1 (ev_bld k l) (ev_bld k (e :: t))) := rfl
    rw [e]
    cases hd : l.drop (Nat.pow 2 k) with
    | nil => exact ih hne
    | cons x t =>
      have h1 := ih hne
      have h2 := ih (l := x :: t) (by simp)
      have hsub : ∀ z, z ∈ x :: t → z ∈ l := fun z hz => List.mem_of_mem_drop (by rw [hd]; exact hz)
      have e2 : (Lean.RArray.branch x.1 (ev_bld k l) (ev_bld k (x :: t))).get n = (Bool.rec ((ev_bld k l).get n) ((ev_bld k (x :: t)).get n) (Nat.ble x.1 n) : pm_I) := rfl
      rw [e2]
      cases Nat.ble x.1 n with
      | false => exact h1
      | true => exact hsub _ h2
def ev_srt : List pm_I → Bool
  | [] => true
  | e :: t => t.all (fun x => Nat.blt e.1 x.1) && ev_srt t
theorem ev_srt_find : ∀ (l : List pm_I), ev_srt l = true → ∀ e ∈ l, pm_find l e.1 = some e.2
  | [], _, e, he => by cases he
  | x :: t, hs, e, he => by
    have hs : (t.all (fun y => Nat.blt x.1 y.1) && ev_srt t) = true := hs
    rw [Bool.and_eq_true] at hs
    show (bif x.1 == e.1 then some x.2 else pm_find t e.1) = some e.2
    rcases List.mem_cons.mp he with rfl | hm
    · rw [beq_self_eq_true]; rfl
    · have h1 := ev_lt (List.all_eq_true.mp hs.1 e hm)
      have h2 : (x.1 == e.1) = false := by rw [beq_eq_false_iff_ne]; omega
      rw [h2]
      exact ev_srt_find t hs.2 e hm
end EVR
/-- the evaluator's step is the pure machine's -/
theorem ev_step_ok {L : Nat} {xs : Nat → Int32} {E : ev_E} {cE : ev_Ca} {cP : Nat → List Value → pm_H → Option pm_R} {o : Nat} {ini : Bool} {ret : Option FieldType} {nL : Nat} {code : List pm_I} (hne : code ≠ []) (hsrt : ev_srt code = true) (hE : ev_sat E L xs) (hC : ev_SC xs cE cP) (hM : ∀ b as h r, cE b as h = some r → ∃ q, pm_mtL[b]? = some q) {s : ev_S} {p : pm_S} (hR : ev_RS xs nL s p) :
    (∀ s', ev_step o ini ret nL (ev_bld 10 code) cE E s = some (.inl s') → ∃ p', ev_RS xs nL s' p' ∧ ∀ m, pm_ey (pm_sX L xs) cP o ini ret code (m + 1) p = pm_ey (pm_sX L xs) cP o ini ret code m p') ∧
    (∀ r, ev_step o ini ret nL (ev_bld 10 code) cE E s = some (.inr r) → ∃ pr, ev_RR xs r pr ∧ ∀ m, pm_ey (pm_sX L xs) cP o ini ret code (m + 1) p = some pr) := by
  obtain ⟨pc, ls, st, h⟩ := s
  obtain ⟨ppc, pls, pst, ph⟩ := p
  obtain ⟨e1, e2, e3, e4, e5⟩ := hR
  have e1 : ppc = pc := e1
  have e2 : pls = ls.map (ev_dL xs) := e2
  have e3 : pst = st.map (ev_dV xs) := e3
  subst e1; subst e2; subst e3
  have hmem := ev_bld_mem hne 10 ppc
  have hfind := ev_srt_find code hsrt _ hmem
  have hunf : ev_step o ini ret nL (ev_bld 10 code) cE E (ppc, ls, st, h) = (match (ev_bld 10 code).get ppc with
    | (p0, i, _, a, b, v) => cond (Nat.beq p0 ppc) (match ev_tr o ini ret nL p0 i a b v with
      | some f => ev_out (pm_isRet i) h.1 h.2.1 (f cE E ls st h)
      | none => none) none) := rfl
  rw [hunf]
  generalize (ev_bld 10 code).get ppc = q at hmem hfind
  obtain ⟨p0, i, len, a, b, v⟩ := q
  have hfind : pm_find code p0 = some (i, len, a, b, v) := hfind
  have hey : ∀ m, pm_ey (pm_sX L xs) cP o ini ret code (m + 1) (p0, ls.map (ev_dL xs), st.map (ev_dV xs), ph) = (match pm_step (pm_sX L xs) cP o ini ret p0 (ls.map (ev_dL xs)) (st.map (ev_dV xs)) ph i len a b v with
      | none => none
      | some (.inr r) => bif pm_isRet i && decide (ph.1 ≤ r.1.1) && decide (ph.2.1 ≤ r.1.2.1) then some r else none
      | some (.inl s') => bif decide (ph.1 ≤ s'.2.2.2.1) && decide (ph.2.1 ≤ s'.2.2.2.2.1) then pm_ey (pm_sX L xs) cP o ini ret code m s' else none) := by
    intro m
    show (match pm_find code p0 with
      | none => none
      | some e => match pm_step (pm_sX L xs) cP o ini ret p0 (ls.map (ev_dL xs)) (st.map (ev_dV xs)) ph e.1 e.2.1 e.2.2.1 e.2.2.2.1 e.2.2.2.2 with
        | none => none
        | some (.inr r) => bif pm_isRet e.1 && decide (ph.1 ≤ r.1.1) && decide (ph.2.1 ≤ r.1.2.1) then some r else none
        | some (.inl s') => bif decide (ph.1 ≤ s'.2.2.2.1) && decide (ph.2.1 ≤ s'.2.2.2.2.1) then pm_ey (pm_sX L xs) cP o ini ret code m s' else none) = _
    rw [hfind]
  have key : ∀ x, (cond (Nat.beq p0 ppc) (match ev_tr o ini ret nL p0 i a b v with
      | some f => ev_out (pm_isRet i) h.1 h.2.1 (f cE E ls st h)
      | none => none) none) = some x → p0 = ppc ∧ ∃ f, ev_tr o ini ret nL p0 i a b v = some f ∧ ev_out (pm_isRet i) h.1 h.2.1 (f cE E ls st h) = some x := by
    intro x hx
    obtain ⟨g1, g2⟩ := ev_c hx
    cases hf : ev_tr o ini ret nL p0 i a b v with
    | none => rw [hf] at g2; cases g2
    | some f => rw [hf] at g2; exact ⟨ev_be g1, f, rfl, g2⟩
  refine ⟨fun s' hs => ?_, fun r hs => ?_⟩
  · obtain ⟨rfl, f, hf, ho⟩ := key _ hs
    unfold ev_out at ho
    split at ho
    · cases ho
    · next t ht =>
      cases hrt : pm_isRet i with
      | true => rw [hrt] at ho; cases ho
      | false =>
        rw [hrt, cond_false] at ho
        obtain ⟨c1, ho2⟩ := ev_c ho
        obtain ⟨c2, ho3⟩ := ev_c ho2
        cases ho3
        obtain ⟨p', hp1, hp2⟩ := ev_tr_I hE hC (fun as h r => hM b as h r) hrt hf ls st h ph s' e4 e5 ht
        refine ⟨p', hp2, fun m => ?_⟩
        rw [hey m, hp1]
        have d1 : ph.1 ≤ p'.2.2.2.1 := by
          rw [e5.1, hp2.2.2.2.2.1]
          exact ev_le c1
        have d2 : ph.2.1 ≤ p'.2.2.2.2.1 := by
          rw [e5.2.1, hp2.2.2.2.2.2.1]
          exact ev_le c2
        show (bif decide (ph.1 ≤ p'.2.2.2.1) && decide (ph.2.1 ≤ p'.2.2.2.2.1) then _ else none) = _
        rw [decide_eq_true d1, decide_eq_true d2]
        rfl
    · next t ht =>
      cases hrt : pm_isRet i with
      | false => rw [hrt] at ho; cases ho
      | true =>
        rw [hrt, cond_true] at ho
        obtain ⟨c1, ho2⟩ := ev_c ho
        obtain ⟨c2, ho3⟩ := ev_c ho2
        cases ho3
  · obtain ⟨rfl, f, hf, ho⟩ := key _ hs
    unfold ev_out at ho
    split at ho
    · cases ho
    · next t ht =>
      cases hrt : pm_isRet i with
      | true => rw [hrt] at ho; cases ho
      | false =>
        rw [hrt, cond_false] at ho
        obtain ⟨c1, ho2⟩ := ev_c ho
        obtain ⟨c2, ho3⟩ := ev_c ho2
        cases ho3
    · next t ht =>
      cases hrt : pm_isRet i with
      | false => rw [hrt] at ho; cases ho
      | true =>
        rw [hrt, cond_true] at ho
        obtain ⟨c1, ho2⟩ := ev_c ho
        obtain ⟨c2, ho3⟩ := ev_c ho2
        cases ho3
        obtain ⟨pr, hp1, hp2⟩ := ev_tr_R hrt hf ls st h ph r e5 ht
        refine ⟨pr, hp2, fun m => ?_⟩
        rw [hey m, hp1]
        have d1 : ph.1 ≤ pr.1.1 := by
          rw [e5.1, hp2.1.1]
          exact ev_le c1
        have d2 : ph.2.1 ≤ pr.1.2.1 := by
          rw [e5.2.1, hp2.1.2.1]
          exact ev_le c2
        show (bif pm_isRet i && decide (ph.1 ≤ pr.1.1) && decide (ph.2.1 ≤ pr.1.2.1) then _ else none) = _
        rw [hrt, decide_eq_true d1, decide_eq_true d2]
        rfl
/-- 2^k of them -/
theorem ev_it_ok {L : Nat} {xs : Nat → Int32} {E : ev_E} {cE : ev_Ca} {cP : Nat → List Value → pm_H → Option pm_R} {o : Nat} {ini : Bool} {ret : Option FieldType} {nL : Nat} {code : List pm_I} (hne : code ≠ []) (hsrt : ev_srt code = true) (hE : ev_sat E L xs) (hC : ev_SC xs cE cP) (hM : ∀ b as h r, cE b as h = some r → ∃ q, pm_mtL[b]? = some q) (k : Nat) : ∀ {s : ev_S} {p : pm_S}, ev_RS xs nL s p →
    (∀ s', ev_it (ev_step o ini ret nL (ev_bld 10 code) cE E) k s = some (.inl s') → ∃ p', ev_RS xs nL s' p' ∧ ∀ m, pm_ey (pm_sX L xs) cP o ini ret code (m + 2 ^ k) p = pm_ey (pm_sX L xs) cP o ini ret code m p') ∧
    (∀ r, ev_it (ev_step o ini ret nL (ev_bld 10 code) cE E) k s = some (.inr r) → ∃ pr, ev_RR xs r pr ∧ ∀ m, pm_ey (pm_sX L xs) cP o ini ret code (m + 2 ^ k) p = some pr) := by
  induction k with
  | zero => intro s p hR; exact ev_step_ok hne hsrt hE hC hM hR
  | succ k ih =>
    intro s p hR
    have hunf : ev_it (ev_step o ini ret nL (ev_bld 10 code) cE E) (k + 1) s = (match ev_it (ev_step o ini ret nL (ev_bld 10 code) cE E) k s with
      | none => none
      | some (.inl t) => ev_it (ev_step o ini ret nL (ev_bld 10 code) cE E) k t
      | some (.inr r) => some (.inr r)) := rfl
    rw [hunf]
    obtain ⟨i1, i2⟩ := ih hR
    have hp : ∀ m, m + 2 ^ (k + 1) = m + 2 ^ k + 2 ^ k := fun m => by rw [Nat.pow_succ]; omega
    refine ⟨fun s' hs => ?_, fun r hs => ?_⟩
    · split at hs
      · cases hs
      · next t ht =>
        obtain ⟨p1, r1, f1⟩ := i1 t ht
        obtain ⟨p2, r2, f2⟩ := (ih r1).1 s' hs
        exact ⟨p2, r2, fun m => by rw [hp, f1, f2]⟩
      · cases hs
    · split at hs
      · cases hs
      · next t ht =>
        obtain ⟨p1, r1, f1⟩ := i1 t ht
        obtain ⟨pr, r2, f2⟩ := (ih r1).2 r hs
        exact ⟨pr, r2, fun m => by rw [hp, f1, f2]⟩
      · next r0 ht =>
        cases hs
        obtain ⟨pr, r2, f2⟩ := i2 r ht
        exact ⟨pr, r2, fun m => by rw [hp, f2]⟩
theorem ev_padK_eq {β : Type} : ∀ (n : Nat) (l : List ev_V) (K : List ev_V → β), l.length ≤ n → ev_padK n l K = K (l ++ List.replicate (n - l.length) (3, 0))
  | 0, l, K, h => by
    have : l = [] := List.length_eq_zero_iff.mp (by omega)
    subst this
    rfl
  | n + 1, [], K, h => by
    have e : ev_padK (n + 1) [] K = ev_padK n [] (fun t => K ((3, 0) :: t)) := rfl
    rw [e, ev_padK_eq n [] _ (by simp)]
    simp [List.replicate_succ]
  | n + 1, x :: r, K, h => by
    have e : ev_padK (n + 1) (x :: r) K = ev_padK n r (fun t => K (x :: t)) := rfl
    rw [e, ev_padK_eq n r _ (by simpa using h)]
    simp
theorem ev_lay_map {xs : Nat → Int32} : ∀ (as : List ev_V), (∀ w ∈ as, w.1 % 4 ≠ 3) → pm_lay (as.map (ev_dV xs)) = (ev_lay as).map (ev_dL xs)
  | [], _ => rfl
  | (t, p) :: r, h => by
    have ih := ev_lay_map (xs := xs) r (fun w hw => h w (List.mem_cons_of_mem _ hw))
    have h3 : t % 4 ≠ 3 := h (t, p) List.mem_cons_self
    show pm_lay (ev_dV xs (t, p) :: r.map (ev_dV xs)) = (cond (Nat.beq (Nat.mod t 4) 1) ((t, p) :: (3, 0) :: ev_lay r) ((t, p) :: ev_lay r)).map (ev_dL xs)
    by_cases h1 : t % 4 = 1
    · rw [show Nat.beq (Nat.mod t 4) 1 = true from ev_bt h1, cond_true, List.map_cons, List.map_cons, ev_dLs (w := (t, p)) h3, ev_dVl h1, ← ih]
      rfl
    · rw [show Nat.beq (Nat.mod t 4) 1 = false from ev_bf h1, cond_false, List.map_cons, ev_dLs (w := (t, p)) h3, ← ih]
      have hc := ev_dVc (xs := xs) (t := t) (p := p) (by omega)
      revert hc
      generalize ev_dV xs (t, p) = u
      intro hc
      cases u <;> first | rfl | cases hc
theorem ev_all_ok {xs : Nat → Int32} : ∀ (as : List ev_V), (∀ w ∈ as, w.1 % 4 ≠ 3) → (as.map (ev_dV xs)).all (fun v => pm_cat1 v || pm_two (some v)) = true
  | [], _ => rfl
  | (t, p) :: r, h => by
    have ih := ev_all_ok r (xs := xs) (fun w hw => h w (List.mem_cons_of_mem _ hw))
    have h3 : t % 4 ≠ 3 := h (t, p) List.mem_cons_self
    rw [List.map_cons, List.all_cons, ih, Bool.and_true]
    by_cases h1 : t % 4 = 1
    · rw [ev_dVl h1]; rfl
    · rw [ev_dVc (by omega)]; rfl
