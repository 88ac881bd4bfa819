/-! the simulation: a step, a run -/
def pm_isRet (i : Instr) : Bool := match i with
  | .ireturn => true
  | .lreturn => true
  | .areturn => true
  | .return_ => true
  | _ => false
/-- at most n instructions of a method; cells are never taken away -/
def pm_ey (X : pm_X) (call : Nat → List Value → pm_H → Option pm_R) (o : Nat) (ini : Bool) (ret : Option FieldType) (code : List pm_I) : Nat → pm_S → Option pm_R
  | 0, _ => none
  | n + 1, s => match pm_find code s.1 with
    | none => none
    | some e => match pm_step X call o ini ret s.1 s.2.1 s.2.2.1 s.2.2.2 e.1 e.2.1 e.2.2.1 e.2.2.2.1 e.2.2.2.2 with
      | none => none
      | some (.inr r) => bif pm_isRet e.1 && decide (s.2.2.2.1 ≤ r.1.1) && decide (s.2.2.2.2.1 ≤ r.1.2.1) then some r else none
      | some (.inl s') => bif decide (s.2.2.2.1 ≤ s'.2.2.2.1) && decide (s.2.2.2.2.1 ≤ s'.2.2.2.2.1) then pm_ey X call o ini ret code n s' else none
def pm_rn (X : pm_X) (n : Nat) : Nat → Nat → List Value → pm_H → Option pm_R
  | 0, _, _, _ => none
  | d + 1, mid, args, h => match pm_mtL[mid]? with
    | none => none
    | some q => bif decide (args.length = q.2.2.2.2.2.1) && decide ((pm_lay args).length ≤ q.2.2.1) && args.all (fun v => pm_cat1 v || pm_two (some v)) then
        pm_ey X (pm_rn X n d) q.2.2.2.2.1 (decide (q.1.name = "<init>")) q.2.2.2.1 q.2.2.2.2.2.2 n (0, pm_ini args q.2.2.1, [], h) else none
theorem pm_find_mem {code : List pm_I} {pc : Nat} {e : Instr × Nat × Nat × Nat × Value} (h : pm_find code pc = some e) : (pc, e) ∈ code := by
  induction code with
  | nil => cases h
  | cons x t ih =>
    have h : (bif x.1 == pc then some x.2 else pm_find t pc) = some e := h
    cases hx : (x.1 == pc) with
    | true =>
      rw [hx] at h
      have h : some x.2 = some e := h
      have e1 : x.1 = pc := by simpa using hx
      have : x = (pc, e) := Prod.ext e1 (Option.some.inj h)
      rw [this]
      exact List.mem_cons_self
    | false =>
      rw [hx] at h
      exact List.mem_cons_of_mem _ (ih h)
theorem pm_rI_no {ret : Option FieldType} {st : List Value} {h : pm_H} {s' : pm_S} (hs : pm_rI ret st h = some (.inl s')) : False := by
  unfold pm_rI at hs
  split at hs
  · next x => cases hx : pm_ret ret x <;> rw [hx] at hs <;> cases hs
  · cases hs
theorem pm_rL_no {ret : Option FieldType} {st : List Value} {h : pm_H} {s' : pm_S} (hs : pm_rL ret st h = some (.inl s')) : False := by
  unfold pm_rL at hs
  split at hs
  · by_cases hx : ret = some .long
    · rw [decide_eq_true hx] at hs; cases hs
    · rw [decide_eq_false hx] at hs; cases hs
  · cases hs
theorem pm_rA_no {ret : Option FieldType} {st : List Value} {h : pm_H} {s' : pm_S} (hs : pm_rA ret st h = some (.inl s')) : False := by
  unfold pm_rA at hs
  split at hs <;> cases hs
theorem pm_rV_no {ret : Option FieldType} {st : List Value} {h : pm_H} {s' : pm_S} (hs : pm_rV ret st h = some (.inl s')) : False := by
  unfold pm_rV at hs
  split at hs <;> cases hs
theorem pm_ey_le {X : pm_X} {call : Nat → List Value → pm_H → Option pm_R} {o : Nat} {ini : Bool} {ret : Option FieldType} {code : List pm_I} {hf : pm_H} {r : Option Value} : ∀ (n : Nat) (t : pm_S) (_ : Unit), pm_ey X call o ini ret code n t = some (hf, r) → t.2.2.2.1 ≤ hf.1 ∧ t.2.2.2.2.1 ≤ hf.2.1
  | 0, t, _, ht => by cases ht
  | n + 1, (pc, ls, st, h), _, ht => by
    replace ht : (match pm_find code pc with
      | none => none
      | some e => match pm_step X call o ini ret pc ls st h e.1 e.2.1 e.2.2.1 e.2.2.2.1 e.2.2.2.2 with
        | none => none
        | some (.inr r) => bif pm_isRet e.1 && decide (h.1 ≤ r.1.1) && decide (h.2.1 ≤ r.1.2.1) then some r else none
        | some (.inl s') => bif decide (h.1 ≤ s'.2.2.2.1) && decide (h.2.1 ≤ s'.2.2.2.2.1) then pm_ey X call o ini ret code n s' else none) = some (hf, r) := ht
    split at ht
    · cases ht
    · next q hfnd =>
      split at ht
      · cases ht
      · next r1 hst =>
        cases hg : (pm_isRet q.1 && decide (h.1 ≤ r1.1.1) && decide (h.2.1 ≤ r1.1.2.1)) with
        | false => rw [hg] at ht; cases ht
        | true =>
          rw [hg] at ht
          have ht : some r1 = some (hf, r) := ht
          obtain rfl := Option.some.inj ht
          rw [Bool.and_eq_true, Bool.and_eq_true, decide_eq_true_eq, decide_eq_true_eq] at hg
          exact ⟨hg.1.2, hg.2⟩
      · next s' hst =>
        cases hg : (decide (h.1 ≤ s'.2.2.2.1) && decide (h.2.1 ≤ s'.2.2.2.2.1)) with
        | false => rw [hg] at ht; cases ht
        | true =>
          rw [hg] at ht
          rw [Bool.and_eq_true, decide_eq_true_eq, decide_eq_true_eq] at hg
          obtain ⟨l1, l2⟩ := pm_ey_le n s' () ht
          exact ⟨Nat.le_trans hg.1 l1, Nat.le_trans hg.2 l2⟩
section SIM5
variable {p : Program} {l : Launch} {e : Env} {R : Room} {s : State} {m : MethodId} {args : Array Value} {below : List Frame} {meth : Method} {c : Code} {Q : State → Prop}
variable {base : Nat} {D : va_G} {dA : Nat → ClassId} {adr : Nat → Nat} {fo : Value} {L : Nat} {xs : Nat → Int32} {nL c0 s0 o d : Nat} {ini : Bool} {cc : ByteArray} {X : pm_X} {call : Nat → List Value → pm_H → Option pm_R} {ret : Option FieldType}
variable {pc len a b : Nat} {ls : pm_Ls} {st : List Value} {h : pm_H} {v : Value} {s' : pm_S}
theorem pm_no {x : Option (pm_S ⊕ pm_R)} (h : x = none) (h2 : x = some (.inl s')) : False := by
  rw [h] at h2
  cases h2
theorem pm_t_all {i : Instr} (fx : pm_Fx p s m args meth c cc nL o ini base D dA adr fo L xs c0) (hC : pm_Call l base D dA adr fo L xs d call) (hRf : d + 1 ≤ R.frames) (hRl : 64 * d + 64 ≤ R.locals) (hd : decode cc pc = .ok (i, len)) (hr : pm_rokB o (pc, i, len, a, b, v) = true) (hst : pm_step (pm_sX L xs) call o ini ret pc ls st h i len a b v = some (.inl s')) (hrc : s'.2.2.2.1 - c0 ≤ R.cells) (hrs : s'.2.2.2.2.1 - s0 ≤ R.slots) (k : pm_K p l e R s m args below meth c Q base D dA adr fo nL c0 s0 s') : pm_K p l e R s m args below meth c Q base D dA adr fo nL c0 s0 (pc, ls, st, h) := by
  cases i with
  | iadd => exact pm_t_iadd fx hd hr hst k
  | isub => exact pm_t_isub fx hd hr hst k
  | imul => exact pm_t_imul fx hd hr hst k
  | iand => exact pm_t_iand fx hd hr hst k
  | ior => exact pm_t_ior fx hd hr hst k
  | ixor => exact pm_t_ixor fx hd hr hst k
  | ishl => exact pm_t_ishl fx hd hr hst k
  | ishr => exact pm_t_ishr fx hd hr hst k
  | iushr => exact pm_t_iushr fx hd hr hst k
  | idiv => exact pm_t_idiv fx hd hr hst k
  | irem => exact pm_t_irem fx hd hr hst k
  | ineg => exact pm_t_ineg fx hd hr hst k
  | ladd => exact pm_t_ladd fx hd hr hst k
  | lsub => exact pm_t_lsub fx hd hr hst k
  | lmul => exact pm_t_lmul fx hd hr hst k
  | ldiv => exact pm_t_ldiv fx hd hr hst k
  | lrem => exact pm_t_lrem fx hd hr hst k
  | lcmp => exact pm_t_lcmp fx hd hr hst k
  | i2l => exact pm_t_i2l fx hd hr hst k
  | l2i => exact pm_t_l2i fx hd hr hst k
  | i2c => exact pm_t_i2c fx hd hr hst k
  | aconst_null => exact pm_t_aconst_null fx hd hr hst k
  | pop => exact pm_t_pop fx hd hr hst k
  | pop2 => exact pm_t_pop2 fx hd hr hst k
  | dup => exact pm_t_dup fx hd hr hst k
  | dup2 => exact pm_t_dup2 fx hd hr hst k
  | arraylength => exact pm_t_arraylength fx hd hr hst k
  | iaload => exact pm_t_iaload fx hd hr hst k
  | baload => exact pm_t_baload fx hd hr hst k
  | laload => exact pm_t_laload fx hd hr hst k
  | aaload => exact pm_t_aaload fx hd hr hst k
  | iastore => exact pm_t_iastore fx hd hr hst k
  | bastore => exact pm_t_bastore fx hd hr hst k
  | lastore => exact pm_t_lastore fx hd hr hst k
  | aastore => exact pm_t_aastore fx hd hr hst k
  | iconst _ => exact pm_t_iconst fx hd hr hst k
  | lconst _ => exact pm_t_lconst fx hd hr hst k
  | bipush _ => exact pm_t_bipush fx hd hr hst k
  | sipush _ => exact pm_t_sipush fx hd hr hst k
  | iload _ => exact pm_t_iload fx hd hr hst k
  | iload_n _ => exact pm_t_iload_n fx hd hr hst k
  | lload _ => exact pm_t_lload fx hd hr hst k
  | lload_n _ => exact pm_t_lload_n fx hd hr hst k
  | aload _ => exact pm_t_aload fx hd hr hst k
  | aload_n _ => exact pm_t_aload_n fx hd hr hst k
  | istore _ => exact pm_t_istore fx hd hr hst k
  | istore_n _ => exact pm_t_istore_n fx hd hr hst k
  | lstore _ => exact pm_t_lstore fx hd hr hst k
  | lstore_n _ => exact pm_t_lstore_n fx hd hr hst k
  | astore _ => exact pm_t_astore fx hd hr hst k
  | astore_n _ => exact pm_t_astore_n fx hd hr hst k
  | iinc _ _ => exact pm_t_iinc fx hd hr hst k
  | goto _ => exact pm_t_goto fx hd hr hst k
  | ifCond _ _ => exact pm_t_ifCond fx hd hr hst k
  | if_icmp _ _ => exact pm_t_if_icmp fx hd hr hst k
  | ifnull _ => exact pm_t_ifnull fx hd hr hst k
  | ifnonnull _ => exact pm_t_ifnonnull fx hd hr hst k
  | ldc _ => exact pm_t_ldc fx hd hr hst k
  | ldc_w _ => exact pm_t_ldc_w fx hd hr hst k
  | ldc2_w _ => exact pm_t_ldc2_w fx hd hr hst k
  | getstatic _ => exact pm_t_getstatic fx hd hr hst k
  | getfield _ => exact pm_t_getfield fx hd hr hst k
  | putfield _ => exact pm_t_putfield fx hd hr hst k
  | checkcast _ => exact pm_t_checkcast fx hd hr hst k
  | tableswitch _ _ _ _ => exact pm_t_tableswitch fx hd hst k
  | new _ => exact pm_t_new fx hd hr hst hrc hrs k
  | newarray _ => exact pm_t_newarray fx hd hr hst hrc hrs k
  | anewarray _ => exact pm_t_anewarray fx hd hr hst hrc hrs k
  | invokevirtual _ => exact pm_t_invokevirtual fx hC hRf hRl hd hr hst hrc hrs k
  | invokestatic _ => exact pm_t_invokestatic fx hC hRf hRl hd hr hst hrc hrs k
  | invokespecial _ => exact pm_t_invokespecial fx hC hRf hRl hd hr hst hrc hrs k
  | ireturn => exact (pm_rI_no (ret := ret) (st := st) (h := h) hst).elim
  | lreturn => exact (pm_rL_no (ret := ret) (st := st) (h := h) hst).elim
  | areturn => exact (pm_rA_no (ret := ret) (st := st) (h := h) hst).elim
  | return_ => exact (pm_rV_no (ret := ret) (st := st) (h := h) hst).elim
  | _ => exact (pm_no rfl hst).elim
theorem pm_isRet_or {i : Instr} (h : pm_isRet i = true) : i = .ireturn ∨ i = .lreturn ∨ i = .areturn ∨ i = .return_ := by
  unfold pm_isRet at h
  split at h
  · exact Or.inl rfl
  · exact Or.inr (Or.inl rfl)
  · exact Or.inr (Or.inr (Or.inl rfl))
  · exact Or.inr (Or.inr (Or.inr rfl))
  · cases h
theorem pm_ey_K {code : List pm_I} {hf : pm_H} {r : Option Value} (fx : pm_Fx p s m args meth c cc nL o ini base D dA adr fo L xs c0) (hC : pm_Call l base D dA adr fo L xs d call) (hRf : d + 1 ≤ R.frames) (hRl : 64 * d + 64 ≤ R.locals) (hret : meth.sig.returnType = ret) (hlk : meth.locks = false) (hcode : ∀ e ∈ code, decode cc e.1 = .ok (e.2.1, e.2.2.1)) (hrok : ∀ e ∈ code, pm_rokB o e = true) (hRc : R.cells = hf.1 - c0) (hRs : R.slots = hf.2.1 - s0) (n : Nat) :
    ∀ t : pm_S, pm_ey (pm_sX L xs) call o ini ret code n t = some (hf, r) → t.2.2.2.1 ≤ hf.1 ∧ t.2.2.2.2.1 ≤ hf.2.1 ∧ pm_K p l e R s m args below meth c (MQ below (pm_Q base D dA adr fo hf r) args s (hf.1 - c0) (hf.2.1 - s0) (pm_A base)) base D dA adr fo nL c0 s0 t := by
  induction n with
  | zero => intro t ht; cases ht
  | succ n ih =>
    rintro ⟨pc, ls, st, h⟩ ht
    replace ht : (match pm_find code pc with
      | none => none
      | some e => match pm_step (pm_sX L xs) call o ini ret pc ls st h e.1 e.2.1 e.2.2.1 e.2.2.2.1 e.2.2.2.2 with
        | none => none
        | some (.inr r) => bif pm_isRet e.1 && decide (h.1 ≤ r.1.1) && decide (h.2.1 ≤ r.1.2.1) then some r else none
        | some (.inl s') => bif decide (h.1 ≤ s'.2.2.2.1) && decide (h.2.1 ≤ s'.2.2.2.2.1) then pm_ey (pm_sX L xs) call o ini ret code n s' else none) = some (hf, r) := ht
    split at ht
    · cases ht
    · next q hfnd =>
      have hmem := pm_find_mem hfnd
      have hd := hcode _ hmem
      have hr := hrok _ hmem
      obtain ⟨i, len, a, b, v⟩ := q
      split at ht
      · cases ht
      · next r1 hst =>
        cases hg : (pm_isRet i && decide (h.1 ≤ r1.1.1) && decide (h.2.1 ≤ r1.1.2.1)) with
        | false => rw [hg] at ht; cases ht
        | true =>
          rw [hg] at ht
          have ht : some r1 = some (hf, r) := ht
          obtain rfl := Option.some.inj ht
          rw [Bool.and_eq_true, Bool.and_eq_true, decide_eq_true_eq, decide_eq_true_eq] at hg
          exact ⟨hg.1.2, hg.2, pm_t_ret fx hret hlk hd hr (pm_isRet_or hg.1.1) hst⟩
      · next s' hst =>
        cases hg : (decide (h.1 ≤ s'.2.2.2.1) && decide (h.2.1 ≤ s'.2.2.2.2.1)) with
        | false => rw [hg] at ht; cases ht
        | true =>
          rw [hg] at ht
          rw [Bool.and_eq_true, decide_eq_true_eq, decide_eq_true_eq] at hg
          obtain ⟨l1, l2, k⟩ := ih s' ht
          refine ⟨Nat.le_trans hg.1 l1, Nat.le_trans hg.2 l2, ?_⟩
          exact pm_t_all fx hC hRf hRl hd hr hst (by rw [hRc]; exact Nat.sub_le_sub_right l1 _) (by rw [hRs]; exact Nat.sub_le_sub_right l2 _) k
theorem pm_lay_args (hfo : fo = .null ∨ ∃ q, fo = .ref q) : ∀ (as : List Value), as.all (fun v => pm_cat1 v || pm_two (some v)) = true → (lg_sl (as.map (pm_emb base adr fo))).length = (pm_lay as).length ∧ ∀ (i k : Nat) (v : Value), (pm_lay as).getD k none = some v → (i + k, pm_emb base adr fo v) ∈ lv_args i (as.map (pm_emb base adr fo))
  | [], _ => ⟨rfl, fun i k v hv => by simp [pm_lay] at hv⟩
  | x :: t, hall => by
    rw [List.all_cons, Bool.and_eq_true] at hall
    obtain ⟨ih1, ih2⟩ := pm_lay_args hfo t hall.2
    by_cases hx : pm_cat1 x = true
    · have hcat : (pm_emb base adr fo x).category = 1 := pm_cat1_emb hx hfo
      have hlay : pm_lay (x :: t) = some x :: pm_lay t := by
        cases x <;> first | rfl | cases hx
      refine ⟨?_, fun i k v hv => ?_⟩
      · rw [hlay]
        have : lg_sl ((x :: t).map (pm_emb base adr fo)) = .val (pm_emb base adr fo x) :: lg_sl (t.map (pm_emb base adr fo)) := by
          simp [lg_sl, hcat]
        rw [this]
        simp [ih1]
      · rw [hlay] at hv
        show _ ∈ (i, pm_emb base adr fo x) :: lv_args (if (pm_emb base adr fo x).category = 2 then i + 2 else i + 1) (t.map (pm_emb base adr fo))
        rw [hcat, if_neg (by decide)]
        cases k with
        | zero =>
          have hv : some x = some v := hv
          cases hv
          exact List.mem_cons_self
        | succ k =>
          have := ih2 (i + 1) k v (by simpa using hv)
          rw [show i + 1 + k = i + (k + 1) by omega] at this
          exact List.mem_cons_of_mem _ this
    · have htwo : pm_two (some x) = true := by
        have := hall.1
        rw [Bool.or_eq_true] at this
        exact this.resolve_left hx
      cases x with
      | long y =>
        refine ⟨?_, fun i k v hv => ?_⟩
        · have : lg_sl ((Value.long y :: t).map (pm_emb base adr fo)) = .val (.long y) :: .second :: lg_sl (t.map (pm_emb base adr fo)) := by
            simp [lg_sl, pm_emb, Value.category]
          rw [this]
          show _ = (some (Value.long y) :: none :: pm_lay t).length
          simp [ih1]
        · have hv : (some (Value.long y) :: none :: pm_lay t).getD k none = some v := hv
          show _ ∈ (i, Value.long y) :: lv_args (i + 2) (t.map (pm_emb base adr fo))
          match k, hv with
          | 0, hv =>
            have hv : some (Value.long y) = some v := hv
            cases hv
            exact List.mem_cons_self
          | 1, hv => simp at hv
          | k + 2, hv =>
            have := ih2 (i + 2) k v (by simpa using hv)
            rw [show i + 2 + k = i + (k + 2) by omega] at this
            exact List.mem_cons_of_mem _ this
      | _ => cases htwo
theorem pm_lay_nd : ∀ (as : List Value), as.all (fun v => pm_cat1 v || pm_two (some v)) = true → ∀ (k : Nat) (z : UInt64), (pm_lay as).getD k none ≠ some (.double z)
  | [], _, k, z => by simp [pm_lay]
  | x :: t, hall, k, z => by
    rw [List.all_cons, Bool.and_eq_true] at hall
    have ih := pm_lay_nd t hall.2
    cases x with
    | long y =>
      show (some (Value.long y) :: none :: pm_lay t).getD k none ≠ _
      match k with
      | 0 => simp
      | 1 => simp
      | k + 2 => simpa using ih k z
    | float y => cases hall.1
    | double y => cases hall.1
    | _ =>
      show (some _ :: pm_lay t).getD k none ≠ _
      match k with
      | 0 => simp
      | k + 1 => simpa using ih k z
theorem pm_ini_get {as : List Value} {n k : Nat} {v : Value} (h : (pm_ini as n).getD k none = some v) : (pm_lay as).getD k none = some v := by
  unfold pm_ini at h
  rw [List.getD_eq_getElem?_getD] at h ⊢
  by_cases hk : k < (pm_lay as).length
  · rw [List.getElem?_append_left hk] at h
    exact h
  · rw [List.getElem?_append_right (by omega)] at h
    exfalso
    rw [List.getElem?_replicate] at h
    split at h <;> cases h
/-- what the pure machine does, the machine does -/
theorem pm_rn_Met (n : Nat) : ∀ d, pm_Call l base D dA adr fo L xs d (pm_rn (pm_sX L xs) n d) := by
  intro d
  induction d with
  | zero => intro mid as h h' r hc; cases hc
  | succ d ih =>
    intro mid as h h' r hc
    replace hc : (match pm_mtL[mid]? with
      | none => none
      | some q => bif decide (as.length = q.2.2.2.2.2.1) && decide ((pm_lay as).length ≤ q.2.2.1) && as.all (fun v => pm_cat1 v || pm_two (some v)) then
        pm_ey (pm_sX L xs) (pm_rn (pm_sX L xs) n d) q.2.2.2.2.1 (decide (q.1.name = "<init>")) q.2.2.2.1 q.2.2.2.2.2.2 n (0, pm_ini as q.2.2.1, [], h) else none) = some (h', r) := hc
    split at hc
    · cases hc
    · next q hq =>
      cases hg : (decide (as.length = q.2.2.2.2.2.1) && decide ((pm_lay as).length ≤ q.2.2.1) && as.all (fun v => pm_cat1 v || pm_two (some v))) with
      | false => rw [hg] at hc; cases hc
      | true =>
        rw [hg] at hc
        rw [Bool.and_eq_true, Bool.and_eq_true, decide_eq_true_eq, decide_eq_true_eq] at hg
        obtain ⟨⟨g1, g2⟩, g3⟩ := hg
        have hmk := pm_mt_ok hq
        have hey : pm_ey (pm_sX L xs) (pm_rn (pm_sX L xs) n d) q.2.2.2.2.1 (decide (q.1.name = "<init>")) q.2.2.2.1 q.2.2.2.2.2.2 n (0, pm_ini as q.2.2.1, [], h) = some (h', r) := hc
        have hle : h.1 ≤ h'.1 ∧ h.2.1 ≤ h'.2.1 := pm_ey_le n _ () hey
        refine ⟨hle.1, hle.2, ?_⟩
        intro q' hq'
        cases hq.symm.trans hq'
        refine va_MetF (cc := q.2.1) (maxL := q.2.2.1) (ret := q.2.2.2.1) hmk.1 rfl ?_
        intro p e s m args below meth c s1 B hml hP
        obtain ⟨rfl, hF, hW⟩ := hP
        have hfo := hF.2.2.2.2.2.2.2.2.2.2.1
        have fx : pm_Fx p s m (as.map (pm_emb base adr fo)).toArray meth c q.2.1 q.2.2.1 q.2.2.2.2.1 (decide (q.1.name = "<init>")) base D dA adr fo L xs h.1 := by
          refine ⟨B.exec, B.bytes, hml, by rw [hmk.2.2.2.2.1]; exact findClass_of_methodNamed B.named, fun w hw => atoms_spec (ws := pm_ws q) B.pre w (List.mem_cons_of_mem _ hw), fun hi => ?_, hF, hW.1⟩
          rw [(name_of_methodNamed B.named B.method).1]
          exact of_decide_eq_true hi
        obtain ⟨-, -, k⟩ := pm_ey_K (R := { frames := d + 1, cells := h'.1 - h.1, slots := h'.2.1 - h.2.1, locals := 64 * (d + 1) }) (s0 := h.2.1) fx ih (Nat.le_refl _) (by show 64 * d + 64 ≤ 64 * (d + 1); omega) B.returns B.notSynchronized hmk.2.2.2.2.2.2.2.1 hmk.2.2.2.2.2.2.2.2 rfl rfl n _ hey
        obtain ⟨a1, a2⟩ := pm_lay_args (base := base) (adr := adr) hfo as g3
        have hent := lv_entry (as.map (pm_emb base adr fo)) (n := q.2.2.1) (by rw [a1]; exact g2)
        have hlen : (pm_ini as q.2.2.1).length = q.2.2.1 := by
          unfold pm_ini
          simp
          omega
        have kk := k s.heap [] _ hW ⟨Nat.le_refl _, fun _ _ _ => rfl, fun _ g => by cases g⟩ (show pm_L base adr fo _ (pm_ini as q.2.2.1) by
          unfold pm_L
          rw [hlen]
          refine pm_has_mono hent (fun z hz => ?_)
          obtain ⟨z1, v, z2, z3⟩ := pm_lvl_mem.mp hz
          have := a2 0 z.1 v (pm_ini_get z2)
          rw [Nat.zero_add, ← z3] at this
          exact this) (fun k x hx => pm_lay_nd as g3 k x (pm_ini_get hx)) hlen (Nat.le_refl _) (Nat.le_refl _)
        rw [lg_entry_eq]
        have kk : W p l e { frames := d + 1, cells := h'.1 - h.1, slots := h'.2.1 - h.2.1, locals := 64 * (d + 1) } s m (as.map (pm_emb base adr fo)).toArray below meth c s.heap [] (h.1 - h.1) (h.2.1 - h.2.1) (MQ below (pm_Q base D dA adr fo h' r) (as.map (pm_emb base adr fo)).toArray s (h'.1 - h.1) (h'.2.1 - h.2.1) (pm_A base)) (F0 m 0 ((lg_sl (as.map (pm_emb base adr fo)) ++ List.replicate (q.2.2.1 - (lg_sl (as.map (pm_emb base adr fo))).length) Slot.unset).toArray) []) := kk
        rw [Nat.sub_self, Nat.sub_self] at kk
        exact kk
end SIM5
