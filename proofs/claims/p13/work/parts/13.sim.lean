/-! the simulation: calls -/
def pm_mlK (e : Nat × Nat × Nat × Nat × Nat) : Bool := decide (e.2.2.1 = 4) || decide (e.2.2.1 = 5) || decide (e.2.2.1 = 6) || (match pm_mtL[e.2.2.2.1]? with
  | none => false
  | some q => match parseMethodDescriptor q.1.desc with
    | none => false
    | some d => (decide (e.2.2.1 = 0) && decide (d.parameters.length + 1 = q.2.2.2.2.2.1) && !decide (q.1.name = "<init>")) || (decide (e.2.2.1 = 7) && decide (d.parameters.length + 1 = q.2.2.2.2.2.1) && !decide (q.1.name = "<init>") && decide (q.1.cls = "java/lang/String")) ||
      (decide (e.2.2.1 = 2) && decide (d.parameters.length + 1 = q.2.2.2.2.2.1) && decide (q.1.name = "<init>") && decide (q.2.2.2.1 = none)) || ((decide (e.2.2.1 = 1) || decide (e.2.2.1 = 3)) && decide (d.parameters.length = q.2.2.2.2.2.1)))
set_option maxRecDepth 100000 in
theorem pm_mlK_ok : pm_mlA.all pm_mlK = true := by decide +kernel
theorem pm_w_oi : Cond.instanceMethod Lib.objectInit ∈ pm_gw := List.mem_filter.mpr ⟨by decide +kernel, rfl⟩
theorem pm_w_oc : Cond.code Lib.objectInit ⟨#[0xb1]⟩ 1 none ∈ pm_gw := List.mem_filter.mpr ⟨by decide +kernel, rfl⟩
theorem pm_w_an : Cond.native arraycopyName ∈ pm_gw := List.mem_filter.mpr ⟨by decide +kernel, rfl⟩
theorem pm_w_as : Cond.static arraycopyName ∈ pm_gw := List.mem_filter.mpr ⟨by decide +kernel, rfl⟩
theorem pm_w_ai : Cond.initialized "java/lang/System" ∈ pm_gw := List.mem_filter.mpr ⟨by decide +kernel, rfl⟩
theorem pm_w_c1 : Cond.sameMethod "[I" "java/lang/Object" "clone" "()Ljava/lang/Object;" ∈ pm_gw := List.mem_filter.mpr ⟨by decide +kernel, rfl⟩
theorem pm_w_c2 : Cond.native ⟨"java/lang/Object", "clone", "()Ljava/lang/Object;"⟩ ∈ pm_gw := List.mem_filter.mpr ⟨by decide +kernel, rfl⟩
theorem pm_w_c3 : Cond.instanceMethod ⟨"java/lang/Object", "clone", "()Ljava/lang/Object;"⟩ ∈ pm_gw := List.mem_filter.mpr ⟨by decide +kernel, rfl⟩
theorem pm_w_c4 : Cond.selects "[I" ⟨"[I", "clone", "()Ljava/lang/Object;"⟩ ⟨"java/lang/Object", "clone", "()Ljava/lang/Object;"⟩ ∈ pm_gw := List.mem_filter.mpr ⟨by decide +kernel, rfl⟩
theorem pm_good {q : pm_M} (hq : pm_mOK q) : GoodIn pm_gw (pm_ws q) := by
  intro w hw
  rcases List.mem_cons.mp hw with rfl | hw
  · exact ⟨hq.2.1, good_of_word (List.mem_filter.mp hq.2.1).2⟩
  · exact ⟨hw, good_of_word (List.mem_filter.mp hw).2⟩
theorem pm_ml_kind {o ix a b : Nat} (h : pm_mlA.any (fun q => q.1 == o && q.2.1 == ix && q.2.2.1 == a && q.2.2.2.1 == b) = true) (h4 : a ≠ 4) (h5 : a ≠ 5) (h6 : a ≠ 6) : ∃ q d, pm_mtL[b]? = some q ∧ parseMethodDescriptor q.1.desc = some d ∧
    ((a = 0 ∧ d.parameters.length + 1 = q.2.2.2.2.2.1 ∧ q.1.name ≠ "<init>") ∨ (a = 7 ∧ d.parameters.length + 1 = q.2.2.2.2.2.1 ∧ q.1.name ≠ "<init>" ∧ q.1.cls = "java/lang/String") ∨ (a = 2 ∧ d.parameters.length + 1 = q.2.2.2.2.2.1 ∧ q.1.name = "<init>" ∧ q.2.2.2.1 = none) ∨ ((a = 1 ∨ a = 3) ∧ d.parameters.length = q.2.2.2.2.2.1)) := by
  obtain ⟨z, hz, hb⟩ := List.any_eq_true.mp h
  simp only [Bool.and_eq_true, beq_iff_eq] at hb
  obtain ⟨⟨⟨e1, e2⟩, e3⟩, e4⟩ := hb
  have hk := List.all_eq_true.mp pm_mlK_ok z hz
  unfold pm_mlK at hk
  rw [e3, e4] at hk
  rw [Bool.or_eq_true, Bool.or_eq_true, Bool.or_eq_true, decide_eq_true_eq, decide_eq_true_eq, decide_eq_true_eq] at hk
  rcases hk with ((hk | hk) | hk) | hk
  · exact absurd hk h4
  · exact absurd hk h5
  · exact absurd hk h6
  · split at hk
    · cases hk
    · next q hq =>
      split at hk
      · cases hk
      · next d hd =>
        refine ⟨q, d, hq, hd, ?_⟩
        simp only [Bool.or_eq_true, Bool.and_eq_true, decide_eq_true_eq, Bool.not_eq_true', decide_eq_false_iff_not] at hk
        rcases hk with ((hk | hk) | hk) | hk
        · exact Or.inl ⟨hk.1.1, hk.1.2, hk.2⟩
        · exact Or.inr (Or.inl ⟨hk.1.1.1, hk.1.1.2, hk.1.2, hk.2⟩)
        · exact Or.inr (Or.inr (Or.inl ⟨hk.1.1.1, hk.1.1.2, hk.1.2, hk.2⟩))
        · exact Or.inr (Or.inr (Or.inr hk))
theorem pm_ml_nest {o ix b : Nat} (h : pm_mlA.any (fun q => q.1 == o && q.2.1 == ix && q.2.2.1 == 3 && q.2.2.2.1 == b) = true) : (o, ix, b) ∈ pm_nest := by
  obtain ⟨z, hz, hb⟩ := List.any_eq_true.mp h
  simp only [Bool.and_eq_true, beq_iff_eq] at hb
  obtain ⟨⟨⟨e1, e2⟩, e3⟩, e4⟩ := hb
  refine List.mem_filterMap.mpr ⟨z, hz, ?_⟩
  rw [if_pos e3, e1, e2, e4]
section SIM4
variable {p : Program} {l : Launch} {e : Env} {R : Room} {s : State} {m : MethodId} {args : Array Value} {below : List Frame} {meth : Method} {c : Code} {Q : State → Prop}
variable {base : Nat} {D : va_G} {dA : Nat → ClassId} {adr : Nat → Nat} {fo : Value} {L : Nat} {xs : Nat → Int32} {nL c0 s0 o d : Nat} {ini : Bool} {cc : ByteArray} {X : pm_X} {call : Nat → List Value → pm_H → Option pm_R} {ret : Option FieldType}
variable {pc len a b : Nat} {ls : pm_Ls} {st : List Value} {h : pm_H} {v : Value} {s' : pm_S}
theorem pm_cat_emb {x : Value} (hfo : fo = .null ∨ ∃ q, fo = .ref q) : (pm_emb base adr fo x).category = x.category := by
  cases x with
  | retAddr k =>
    show (bif k == 300 then fo else Value.ref (adr k)).category = 1
    cases (k == 300) with
    | true => rcases hfo with rfl | ⟨q, rfl⟩ <;> rfl
    | false => rfl
  | _ => rfl
theorem pm_w8_emb {r : List Value} (hfo : fo = .null ∨ ∃ q, fo = .ref q) (h8 : pm_w8 r = true) : ((r.map (pm_emb base adr fo)).map fun v => v.category).sum ≤ 8 := by
  have h8 : (r.map fun v => v.category).sum ≤ 8 := of_decide_eq_true h8
  rw [List.map_map]
  have e : (fun v : Value => v.category) ∘ (pm_emb base adr fo) = fun v => v.category := by funext x; exact pm_cat_emb hfo
  rw [e]
  exact h8
theorem pm_inv_call {ik : Nat} (h4 : a ≠ 4) (h5 : a ≠ 5) (h6 : a ≠ 6) (hst : pm_inv X call ik pc ls st h a b = some (.inl s')) : ∃ q, pm_mtL[b]? = some q ∧ pm_call call a b q.2.2.2.2.2.1 q.1.cls pc ls st h = some (.inl s') ∧ (bif a == 0 || a == 7 then ik == 0 else bif a == 2 then ik == 2 else ik == 1) = true := by
  unfold pm_inv at hst
  split at hst
  · exact absurd rfl h4
  · exact absurd rfl h5
  · exact absurd rfl h6
  · split at hst
    · next y q1 q2 q3 q4 q5 q6 hq =>
      cases hg : (bif a == 0 || a == 7 then ik == 0 else bif a == 2 then ik == 2 else ik == 1) with
      | false => rw [hg] at hst; cases hst
      | true =>
        rw [hg] at hst
        exact ⟨_, hq, hst, rfl⟩
    · cases hst
def pm_isStr (w : Value) : Bool := match w with
      | .retAddr k => decide (k < 23)
      | _ => false
def pm_rcv (kind na : Nat) (cls : String) (st : List Value) (h : pm_H) : Bool := bif kind == 0 || kind == 2 then (match pm_obj h ((st.take na).getLastD .null) with
      | some x => decide (pm_cnm x.2.1 = cls)
      | none => false) else bif kind == 7 then (match (st.take na).getLastD .null with
      | .retAddr k => decide (k < 23)
      | _ => false) else kind == 1 || kind == 3
theorem pm_call_inv {na : Nat} {cls : String} (hst : pm_call call a b na cls pc ls st h = some (.inl s')) : ∃ h' r, call b (st.take na).reverse h = some (h', r) ∧ na ≤ st.length ∧ pm_w8 (st.drop na) = true ∧ pm_rcv a na cls st h = true ∧ s' = (pc + 3, ls, r.toList ++ st.drop na, h') := by
  replace hst : (bif decide (na ≤ st.length) && pm_w8 (st.drop na) && pm_rcv a na cls st h then
    (match call b (st.take na).reverse h with
    | some (h', some v) => pm_go (pc + 3) ls (v :: st.drop na) h'
    | some (h', none) => pm_go (pc + 3) ls (st.drop na) h'
    | none => none) else none) = some (.inl s') := hst
  cases hg : (decide (na ≤ st.length) && pm_w8 (st.drop na) && pm_rcv a na cls st h) with
  | false => rw [hg] at hst; cases hst
  | true =>
    rw [hg] at hst
    rw [Bool.and_eq_true, Bool.and_eq_true, decide_eq_true_eq] at hg
    replace hst : (match call b (st.take na).reverse h with
      | some (h', some v) => pm_go (pc + 3) ls (v :: st.drop na) h'
      | some (h', none) => pm_go (pc + 3) ls (st.drop na) h'
      | none => none) = some (.inl s') := hst
    split at hst
    · next h' u hc => exact ⟨h', some u, hc, hg.1.1, hg.1.2, hg.2, pm_go_inv hst⟩
    · next h' hc => exact ⟨h', none, hc, hg.1.1, hg.1.2, hg.2, pm_go_inv hst⟩
    · cases hst
theorem pm_Pc_blind {as : List Value} : FrameBlind (va_Pc (as.map (pm_emb base adr fo)) (fun U => pm_F base D dA adr fo L xs U ∧ pm_W base D dA adr fo h U.heap)) := by
  intro a0 U g mk hP
  exact ⟨hP.1, pm_F.calling hP.2.1, hP.2.2⟩
theorem pm_Pc_pre {as : List Value} {H : Heap} {locs : List Loc} (hF : pm_F base D dA adr fo L xs s) (hW : pm_W base D dA adr fo h H) (hS : va_S (pm_A base) s.heap H locs) : ∀ U : State, U.heap = H → s.WarmedH U.vm → va_Pc (as.map (pm_emb base adr fo)) (fun U => pm_F base D dA adr fo L xs U ∧ pm_W base D dA adr fo h U.heap) (as.map (pm_emb base adr fo)).toArray U := by
  intro U hU hWm
  refine ⟨rfl, pm_F.moved hF hWm (by rw [hU]; exact hS.1) (fun a0 h1 h2 => by rw [hU]; exact hS.2.1 a0 h1 h2), by rw [hU]; exact hW⟩
theorem pm_ret_call {h' : pm_H} {r : Option Value} {H : Heap} {locs : List Loc} {lsA : Array Slot} {rest stM : List Value} {a0 : Array Value} (fx : pm_Fx p s m args meth c cc nL o ini base D dA adr fo L xs c0) (hW : pm_W base D dA adr fo h H) (hS : va_S (pm_A base) s.heap H locs) (hl : pm_L base adr fo lsA ls) (hn : pm_nd ls) (hz : ls.length = nL) (hc : c0 ≤ h.1) (hs : s0 ≤ h.2.1) (le1 : h.1 ≤ h'.1) (le2 : h.2.1 ≤ h'.2.1)
    (hr : va_Run p l e R s m args below meth c H locs (h.1 - c0) (h.2.1 - s0) (h'.1 - h.1) (h'.2.1 - h.2.1) (F0 m pc lsA stM) (rest.map (pm_emb base adr fo)) (pm_Q base D dA adr fo h' r a0) (pm_A base))
    (k : pm_K p l e R s m args below meth c Q base D dA adr fo nL c0 s0 (pc + 3, ls, r.toList ++ rest, h')) : W p l e R s m args below meth c H locs (h.1 - c0) (h.2.1 - s0) Q (F0 m pc lsA stM) := by
  intro T hT X1
  obtain ⟨v, st0, t, T', L1, h0, X', hL, e1, e2, ⟨hv, hW', hF1, hF2⟩, stp⟩ := hr T hT X1
  have hv : v = r.map (pm_emb base adr fo) := by cases hv; rfl
  subst hv
  rw [h0] at hF1 hF2
  have kk := k T'.heap (locs ++ L1) lsA (by rw [e1]; exact hW') ⟨Nat.le_trans hS.1 (by rw [e1]; exact hF1), fun q g1 g2 => by
      rw [e1, hF2 q (Nat.lt_of_lt_of_le g1 hS.1) g2]
      exact hS.2.1 q g1 g2, fun q hq => by
      rcases List.mem_append.mp hq with g | g
      · exact hS.2.2 q g
      · exact hL q g⟩ hl hn hz (Nat.le_trans hc le1) (Nat.le_trans hs le2)
  have kk : W p l e R s m args below meth c T'.heap (locs ++ L1) (h'.1 - c0) (h'.2.1 - s0) Q (F0 m (pc + 3) lsA ((r.toList ++ rest).map (pm_emb base adr fo))) := kk
  rw [show h'.1 - c0 = h.1 - c0 + (h'.1 - h.1) by omega, show h'.2.1 - s0 = h.2.1 - s0 + (h'.2.1 - h.2.1) by omega, show (r.toList ++ rest).map (pm_emb base adr fo) = (r.map (pm_emb base adr fo)).toList ++ rest.map (pm_emb base adr fo) by cases r <;> simp] at kk
  obtain ⟨t2, a1, b1⟩ := kk T' rfl X'
  exact ⟨t2, stp t2 a1, b1⟩
theorem pm_fixS (fx : pm_Fx p s m args meth c cc nL o ini base D dA adr fo L xs c0) : CallFix p m c cc nL s args pm_gw (pm_own o) := ⟨fx.1, fx.2.1, fx.2.2.1, fx.2.2.2.1, fx.2.2.2.2.1⟩
theorem pm_callB {ix n mc ms : Nat} {q : pm_M} (fx : pm_Fx p s m args meth c cc nL o ini base D dA adr fo L xs c0) (hq : pm_mOK q) (hRf : d + 1 ≤ R.frames) (hRl : 64 * d + 64 ≤ R.locals) (hn : ∃ dd, parseMethodDescriptor q.1.desc = some dd ∧ dd.parameters.length = n) (hl : Cond.methodLink (pm_own o) ix q.1 ∈ pm_gw) :
    CallB R s args (pm_own o) ix q.1 q.2.1 q.2.2.1 q.2.2.2.1 (pm_ws q) { frames := d, cells := mc, slots := ms, locals := 64 * d } mc ms n := by
  obtain ⟨dd, hd1, hd2⟩ := hn
  have h22 := hq.2.2.2.2.2.2.1
  refine callB_of n fx.2.2.2.2.1 (pm_good hq) rfl rfl rfl (fx.2.2.2.2.1 _ hq.2.2.1) (fx.2.2.2.2.1 _ hl) ⟨hq.2.2.2.1.1, hq.2.2.2.1.2, by rw [hd1]; simp [hd2]⟩ ⟨hRf, ?_⟩
  show 8 + (q.2.2.1 + 11) + 64 * d ≤ R.locals
  omega
theorem pm_lsz {lsA : Array Slot} (hl : pm_L base adr fo lsA ls) (hz : ls.length = nL) : lsA.size = nL := by rw [← hz]; exact hl.1
theorem pm_mw_call {ix : Nat} {q : pm_M} (hq : pm_mtL[b]? = some q) (h3 : a ≠ 3) (h4 : a ≠ 4) (h5 : a ≠ 5) (h6 : a ≠ 6) : pm_mw o ix a b = .methodLink (pm_own o) ix q.1 := by
  unfold pm_mw pm_y
  rw [if_neg h3, if_neg h4, if_neg h5, if_neg h6, hq]
/-- the receiver and the other arguments -/
theorem pm_take {na : Nat} {w0 : Value} {As : List Value} (hz : (st.take na).reverse = w0 :: As) : st = As.reverse ++ w0 :: st.drop na ∧ (st.take na).getLastD .null = w0 := by
  have h1 : st.take na = (w0 :: As).reverse := by rw [← hz, List.reverse_reverse]
  refine ⟨?_, ?_⟩
  · conv => lhs; rw [← List.take_append_drop na st, h1]
    simp
  · rw [h1, List.getLastD_eq_getLast?]
    simp
theorem pm_take_nil {na : Nat} (hz : (st.take na).reverse = []) : (st.take na).getLastD .null = .null := by
  have h1 : st.take na = [] := by simpa using hz
  rw [h1]
  rfl
theorem pm_t_invokevirtual {ix : Nat} (fx : pm_Fx p s m args meth c cc nL o ini base D dA adr fo L xs c0) (hC : pm_Call l base D dA adr fo L xs d call) (hRf : d + 1 ≤ R.frames) (hRl : 64 * d + 64 ≤ R.locals) (hd : decode cc pc = .ok (.invokevirtual ix, len)) (hr : pm_rokB o (pc, .invokevirtual ix, len, a, b, v) = true) (hst : pm_step (pm_sX L xs) call o ini ret pc ls st h (.invokevirtual ix) len a b v = some (.inl s')) (hrc : s'.2.2.2.1 - c0 ≤ R.cells) (hrs : s'.2.2.2.2.1 - s0 ≤ R.slots) (k : pm_K p l e R s m args below meth c Q base D dA adr fo nL c0 s0 s') : pm_K p l e R s m args below meth c Q base D dA adr fo nL c0 s0 (pc, ls, st, h) := by
  have hr2 : (len == 3 && pm_mlA.any (fun q => q.1 == o && q.2.1 == ix && q.2.2.1 == a && q.2.2.2.1 == b)) = true := hr
  rw [Bool.and_eq_true, beq_iff_eq] at hr2
  obtain ⟨rfl, hw⟩ := hr2
  have hF := fx.2.2.2.2.2.2.1
  have hfo := hF.2.2.2.2.2.2.2.2.2.2.1
  replace hst : pm_inv (pm_sX L xs) call 0 pc ls st h a b = some (.inl s') := hst
  by_cases h4 : a = 4
  · subst h4
    unfold pm_inv at hst
    split at hst <;> first | cases hst | contradiction
  by_cases h5 : a = 5
  · subst h5
    unfold pm_inv at hst
    split at hst <;> first | cases hst | contradiction
  by_cases h6 : a = 6
  · subst h6
    replace hst : (match 0, st with
      | 0, .ref s :: r => (match pm_arr (pm_sX L xs) h (.ref s) with
        | some (t0, n0, .inl f) => bif t0 == 0 && pm_w8 r then pm_go (pc + 3) ls (.ref h.1 :: r) (pm_hpush h n0 (.inl (0, n0, .inl f))) else none
        | _ => none)
      | _, _ => none) = some (.inl s') := hst
    split at hst
    · next q r _ =>
      split at hst
      · next t0 n0 f hx =>
        cases hg : (t0 == 0 && pm_w8 r) with
        | false => rw [hg] at hst; cases hst
        | true =>
          rw [hg] at hst
          rw [Bool.and_eq_true, beq_iff_eq] at hg
          obtain ⟨rfl, h8⟩ := hg
          obtain rfl := pm_go_inv hst
          obtain ⟨hq, hc1⟩ := pm_arr_inv hx
          have hrc : h.1 + 1 - c0 ≤ R.cells := hrc
          have hrs : h.2.1 + n0 - s0 ≤ R.slots := hrs
          have hwd : Cond.methodLink (pm_own o) ix ⟨"[I", "clone", "()Ljava/lang/Object;"⟩ ∈ pm_gw := pm_ml_word hw (by decide)
          intro H locs lsA hW hS hl hn hz hc hs
          have hc : c0 ≤ h.1 := hc
          have hs : s0 ≤ h.2.1 := hs
          have h8' := pm_w8_emb (base := base) (adr := adr) hfo h8
          refine va_clone (ad := "[I") (x := (n0, .inl f)) (ty := .int) fx.1 fx.2.1 (fx.2.2.1.trans (pm_lsz hl hz).symm) fx.2.2.2.1 (fx.2.2.2.2.1 _ hwd) (fx.2.2.2.2.1 _ pm_w_c1) (fx.2.2.2.2.1 _ pm_w_c2) (fx.2.2.2.2.1 _ pm_w_c3) (fx.2.2.2.2.1 _ pm_w_c4) hF.2.2.2.2.2.2.1 hF.1 hW.P pm_wl_D (pm_S0 hS) (pm_hA hW) q 0 (pm_at_arr hW hq hc1) rfl (va_nm_int (hF.1.2 0 (dA 0, .int) rfl).2) (va_fit (fun i hi => rfl)) (by omega) (by omega) (by show h.1 - c0 + 1 ≤ R.cells; omega) (by show h.2.1 - s0 + n0 ≤ R.slots; omega) hd (fun q1 H1 hK1 hP1 hD1 hS1 => ?_)
          exact pm_newc (x := .inl (0, n0, .inl f)) fx hW hS hc hs hl hn hz hP1 hD1 hS1 k
      · cases hst
    · cases hst
  obtain ⟨q, hq, hcl, hik⟩ := pm_inv_call h4 h5 h6 hst
  obtain ⟨q', dd, hq', hdd, hkind⟩ := pm_ml_kind hw h4 h5 h6
  cases hq.symm.trans hq'
  have hmk := pm_mt_ok hq
  obtain ⟨h', r, hcall, hna, h8, hrcv, rfl⟩ := pm_call_inv hcl
  obtain ⟨le1, le2, hM⟩ := hC _ _ _ _ _ hcall
  have hM := hM q hq
  have hrc : h'.1 - c0 ≤ R.cells := hrc
  have hrs : h'.2.1 - s0 ≤ R.slots := hrs
  have hkd : (a = 0 ∨ a = 7) ∧ dd.parameters.length + 1 = q.2.2.2.2.2.1 ∧ q.1.name ≠ "<init>" ∧ (a = 7 → q.1.cls = "java/lang/String") := by
    rcases hkind with ⟨g1, g2, g3⟩ | ⟨g1, g2, g3, g4⟩ | ⟨g1, -⟩ | ⟨g1, -⟩
    · exact ⟨Or.inl g1, g2, g3, fun g => by omega⟩
    · exact ⟨Or.inr g1, g2, g3, fun _ => g4⟩
    · subst g1; cases hik
    · rcases g1 with rfl | rfl <;> cases hik
  obtain ⟨ha, hnp, hni, h7⟩ := hkd
  have hwd := pm_ml_word hw (by omega)
  rw [pm_mw_call hq (by omega) h4 h5 h6] at hwd
  obtain ⟨d2, hd2, hor⟩ := hmk.2.2.2.2.2.1
  cases hdd.symm.trans hd2
  have hsel : Cond.instanceMethod q.1 ∈ pm_gw ∧ Cond.selects q.1.cls q.1 q.1 ∈ pm_gw := by
    rcases hor with ⟨g1, -⟩ | ⟨-, g2, g3⟩
    · omega
    · exact ⟨g2, g3.resolve_left hni⟩
  cases has : (st.take q.2.2.2.2.2.1).reverse with
  | nil =>
    unfold pm_rcv at hrcv
    rw [pm_take_nil has] at hrcv
    rcases ha with rfl | rfl <;> cases hrcv
  | cons w0 As =>
    obtain ⟨hst2, hlast⟩ := pm_take has
    rw [has] at hM
    unfold pm_rcv at hrcv
    rw [hlast] at hrcv
    have hlenA : As.length = dd.parameters.length := by
      have g := congrArg List.length has
      simp at g
      omega
    intro H locs lsA hW hS hl hn hz hc hs
    have hc : c0 ≤ h.1 := hc
    have hs : s0 ≤ h.2.1 := hs
    have h8' := pm_w8_emb (base := base) (adr := adr) hfo h8
    have hrecv : ∃ b1, pm_emb base adr fo w0 = .ref b1 ∧ ∃ cellB : Cell, H[b1]? = some cellB ∧ cellB.vm.isStatics = false ∧ s.vm.findClass q.1.cls = some cellB.cls := by
      rcases ha with rfl | rfl
      · replace hrcv : (match pm_obj h w0 with
          | some x => decide (pm_cnm x.2.1 = q.1.cls)
          | none => false) = true := hrcv
        split at hrcv
        · next z hz1 =>
          obtain ⟨rfl, hlt, hcell⟩ := pm_obj_inv hz1
          have hcn : pm_cnm z.2.1 = q.1.cls := of_decide_eq_true hrcv
          refine ⟨base + z.1, rfl, ?_⟩
          have hat := pm_at_obj (base := base) (D := D) (dA := dA) (adr := adr) (fo := fo) hW hlt hcell
          have hcl2 : ∃ r, pm_cls[z.2.1]? = some r := by
            obtain ⟨r0, hr0, -⟩ := hW.P z.1 _ hat
            exact ⟨r0, hr0⟩
          obtain ⟨r0, hr0⟩ := hcl2
          have := va_recv hF.1 hW.P hr0 hat
          have hce : pm_cnm z.2.1 = r0.1 := by unfold pm_cnm; rw [hr0]
          rw [← hcn, hce]
          exact this
        · cases hrcv
      · replace hrcv : pm_isStr w0 = true := hrcv
        unfold pm_isStr at hrcv
        split at hrcv
        · next j =>
          have hj : j < 23 := of_decide_eq_true hrcv
          have hne : (j == 300) = false := by rw [beq_eq_false_iff_ne]; omega
          refine ⟨adr j, pm_emb_st hne, ?_⟩
          obtain ⟨cell, o1, o2, o3, o4⟩ := (hF.2.2.1 j hj).2.1
          rw [h7 rfl]
          exact ⟨cell, by rw [hS.2.1 _ (Array.getElem?_eq_some_iff.mp o1).1 o4]; exact o1, o2, o3⟩
        · cases hrcv
    obtain ⟨b1, hb1, hcellB⟩ := hrecv
    have hPre := pm_Pc_pre (as := w0 :: As) hF hW hS
    have hM2 : Met l q.1 (pm_ws q) { frames := d, cells := h'.1 - h.1, slots := h'.2.1 - h.2.1, locals := 64 * d } (va_Pc ((w0 :: As).map (pm_emb base adr fo)) (fun U => pm_F base D dA adr fo L xs U ∧ pm_W base D dA adr fo h U.heap)) (pm_Q base D dA adr fo h' r) (h'.1 - h.1) (h'.2.1 - h.2.1) (pm_A base) := hM
    have hrun := va_runV (H := H) (locs := locs) (cells := h.1 - c0) (slots := h.2.1 - s0) (b := b1) (As := As.map (pm_emb base adr fo)) (rest := (st.drop q.2.2.2.2.2.1).map (pm_emb base adr fo)) (C := q.1.cls) (e := e) (below := below) (meth := meth) (g := F0 m pc lsA (st.map (pm_emb base adr fo))) (pm_fixS fx) hM2 ⟨pm_callB fx hmk hRf hRl ⟨dd, hdd, rfl⟩ hwd, fx.2.2.2.2.1 _ hsel.1, fx.2.2.2.2.1 _ hsel.2⟩ ⟨pm_Pc_blind, hcellB, fun U hU hWm => by
        have := hPre U hU hWm
        simp only [List.map_cons, hb1] at this ⊢
        exact this⟩ rfl (by rw [List.length_map]; exact hlenA) (pm_lsz hl hz) (by
        show st.map (pm_emb base adr fo) = _
        conv => lhs; rw [hst2]
        rw [List.map_append, List.map_reverse, List.map_cons, hb1]) (by show 2 * 0 + _ ≤ 8; omega) hd ⟨by omega, by omega⟩
    exact pm_ret_call fx hW hS hl hn hz hc hs le1 le2 hrun k
theorem pm_t_invokestatic {ix : Nat} (fx : pm_Fx p s m args meth c cc nL o ini base D dA adr fo L xs c0) (hC : pm_Call l base D dA adr fo L xs d call) (hRf : d + 1 ≤ R.frames) (hRl : 64 * d + 64 ≤ R.locals) (hd : decode cc pc = .ok (.invokestatic ix, len)) (hr : pm_rokB o (pc, .invokestatic ix, len, a, b, v) = true) (hst : pm_step (pm_sX L xs) call o ini ret pc ls st h (.invokestatic ix) len a b v = some (.inl s')) (hrc : s'.2.2.2.1 - c0 ≤ R.cells) (hrs : s'.2.2.2.2.1 - s0 ≤ R.slots) (k : pm_K p l e R s m args below meth c Q base D dA adr fo nL c0 s0 s') : pm_K p l e R s m args below meth c Q base D dA adr fo nL c0 s0 (pc, ls, st, h) := by
  have hF := fx.2.2.2.2.2.2.1
  have hfo := hF.2.2.2.2.2.2.2.2.2.2.1
  replace hst : pm_inv (pm_sX L xs) call 1 pc ls st h a b = some (.inl s') := hst
  have hr1 : (a == 99 || (len == 3 && pm_mlA.any (fun q => q.1 == o && q.2.1 == ix && q.2.2.1 == a && q.2.2.2.1 == b))) = true := hr
  have ha99 : (a == 99) = false := by
    cases h99 : (a == 99) with
    | false => rfl
    | true =>
      have h99 : a = 99 := by simpa using h99
      subst h99
      obtain ⟨q, hq, hcl, -⟩ := pm_inv_call (by decide) (by decide) (by decide) hst
      obtain ⟨h', r, hcall, hna, h8, hrcv, rfl⟩ := pm_call_inv hcl
      cases hrcv
  rw [ha99] at hr1
  have hr2 : (len == 3 && pm_mlA.any (fun q => q.1 == o && q.2.1 == ix && q.2.2.1 == a && q.2.2.2.1 == b)) = true := hr1
  rw [Bool.and_eq_true, beq_iff_eq] at hr2
  obtain ⟨rfl, hw⟩ := hr2
  by_cases h4 : a = 4
  · subst h4
    unfold pm_inv at hst
    split at hst <;> first | cases hst | contradiction
  by_cases h5 : a = 5
  · subst h5
    replace hst : (match 1, st with
      | 1, .int n :: .int dp :: .ref d :: .int sp :: .ref s :: r =>
        (match pm_arr (pm_sX L xs) h (.ref s), pm_arr (pm_sX L xs) h (.ref d) with
        | some (t0, n0, .inl f), some (t1, n1, .inl g) => bif t0 == 0 && t1 == 0 && !decide (sp < 0) && !decide (dp < 0) && !decide (n < 0) && decide (sp.toNatClampNeg + n.toNatClampNeg ≤ n0) && decide (dp.toNatClampNeg + n.toNatClampNeg ≤ n1) && pm_w8 r then
            pm_go (pc + 3) ls r (pm_hset h d (.inl (0, n1, .inl (va_cpy f g sp.toNatClampNeg dp.toNatClampNeg n.toNatClampNeg)))) else none
        | _, _ => none)
      | _, _ => none) = some (.inl s') := hst
    split at hst
    · next n dp qd sp qs r _ =>
      split at hst
      · next t0 n0 f t1 n1 g hx hy =>
        cases hg : (t0 == 0 && t1 == 0 && !decide (sp < 0) && !decide (dp < 0) && !decide (n < 0) && decide (sp.toNatClampNeg + n.toNatClampNeg ≤ n0) && decide (dp.toNatClampNeg + n.toNatClampNeg ≤ n1) && pm_w8 r) with
        | false => rw [hg] at hst; cases hst
        | true =>
          rw [hg] at hst
          simp only [Bool.and_eq_true, beq_iff_eq, Bool.not_eq_true', decide_eq_false_iff_not, decide_eq_true_eq] at hg
          obtain ⟨⟨⟨⟨⟨⟨⟨rfl, rfl⟩, g1⟩, g2⟩, g3⟩, g4⟩, g5⟩, h8⟩ := hg
          obtain rfl := pm_go_inv hst
          obtain ⟨hq1, hc1⟩ := pm_arr_inv hx
          obtain ⟨hq2, hc2⟩ := pm_arr_inv hy
          have hwd : Cond.methodLink (pm_own o) ix arraycopyName ∈ pm_gw := pm_ml_word hw (by decide)
          intro H locs lsA hW hS hl hn hz hc hs
          have h8' := pm_w8_emb (base := base) (adr := adr) hfo h8
          refine va_copyi (ty := .int) fx.1 fx.2.1 (fx.2.2.1.trans (pm_lsz hl hz).symm) fx.2.2.2.1 (fx.2.2.2.2.1 _ hwd) (fx.2.2.2.2.1 _ pm_w_an) (fx.2.2.2.2.1 _ pm_w_as) (fx.2.2.2.2.1 _ pm_w_ai) hF.1 hW.P pm_wl_D (pm_S0 hS) qs qd 0 0 (pm_at_arr hW hq1 hc1) (pm_at_arr hW hq2 hc2) rfl rfl rfl g1 g2 g3 g4 g5 (fun _ _ => rfl) (by omega) (by
            have : nativeFrameWords "java/lang/System" "arraycopy" 5 = 7 := by decide +kernel
            omega) hd (fun H1 locs1 hP1 hD1 hS1 => ?_)
          have e1 : (pm_wl base dA adr fo h).set qd (base + qd, .inl (dA 0, n1, .inl (va_cpy f g sp.toNatClampNeg dp.toNatClampNeg n.toNatClampNeg))) = pm_wl base dA adr fo (pm_hset h qd (.inl (0, n1, .inl (va_cpy f g sp.toNatClampNeg dp.toNatClampNeg n.toNatClampNeg)))) := by
            rw [← pm_wl_set hq2]
            rfl
          rw [e1] at hP1
          exact pm_store (h' := pm_hset h qd (.inl (0, n1, .inl (va_cpy f g sp.toNatClampNeg dp.toNatClampNeg n.toNatClampNeg)))) fx hW hS hc hs hl hn hz rfl rfl hP1 hS1 k
      · cases hst
    · cases hst
  by_cases h6 : a = 6
  · subst h6
    unfold pm_inv at hst
    split at hst <;> first | cases hst | contradiction
  obtain ⟨q, hq, hcl, hik⟩ := pm_inv_call h4 h5 h6 hst
  obtain ⟨q', dd, hq', hdd, hkind⟩ := pm_ml_kind hw h4 h5 h6
  cases hq.symm.trans hq'
  have hmk := pm_mt_ok hq
  obtain ⟨h', r, hcall, hna, h8, hrcv, rfl⟩ := pm_call_inv hcl
  obtain ⟨le1, le2, hM⟩ := hC _ _ _ _ _ hcall
  have hM := hM q hq
  have hrc : h'.1 - c0 ≤ R.cells := hrc
  have hrs : h'.2.1 - s0 ≤ R.slots := hrs
  have hkd : (a = 1 ∨ a = 3) ∧ dd.parameters.length = q.2.2.2.2.2.1 := by
    rcases hkind with ⟨g1, g2, g3⟩ | ⟨g1, g2, g3, g4⟩ | ⟨g1, -⟩ | hg
    · subst g1; cases hik
    · subst g1; cases hik
    · subst g1; cases hik
    · exact hg
  obtain ⟨ha, hnp⟩ := hkd
  obtain ⟨d2, hd2, hor⟩ := hmk.2.2.2.2.2.1
  cases hdd.symm.trans hd2
  have hstt : Cond.static q.1 ∈ pm_gw := by
    rcases hor with ⟨-, g2⟩ | ⟨g1, -⟩
    · exact g2
    · omega
  generalize has : (st.take q.2.2.2.2.2.1).reverse = As at hM
  have hst2 : st = As.reverse ++ st.drop q.2.2.2.2.2.1 := by rw [← has, List.reverse_reverse, List.take_append_drop]
  have hlenA : As.length = dd.parameters.length := by
    have g := congrArg List.length has
    simp at g
    omega
  intro H locs lsA hW hS hl hn hz hc hs
  have hc : c0 ≤ h.1 := hc
  have hs : s0 ≤ h.2.1 := hs
  have h8' := pm_w8_emb (base := base) (adr := adr) hfo h8
  have hstk : st.map (pm_emb base adr fo) = (As.map (pm_emb base adr fo)).reverse ++ (st.drop q.2.2.2.2.2.1).map (pm_emb base adr fo) := by
    conv => lhs; rw [hst2]
    rw [List.map_append, List.map_reverse]
  rcases ha with rfl | rfl
  · have hwd := pm_ml_word hw (by decide)
    rw [pm_mw_call hq (by decide) (by decide) (by decide) (by decide)] at hwd
    have hrun := va_runS (H := H) (locs := locs) (cells := h.1 - c0) (slots := h.2.1 - s0) (As := As.map (pm_emb base adr fo)) (rest := (st.drop q.2.2.2.2.2.1).map (pm_emb base adr fo)) (e := e) (below := below) (meth := meth) (g := F0 m pc lsA (st.map (pm_emb base adr fo))) (pm_fixS fx) hM ⟨pm_callB fx hmk hRf hRl ⟨dd, hdd, rfl⟩ hwd, fx.2.2.2.2.1 _ hstt⟩ ⟨pm_Pc_blind, pm_Pc_pre (as := As) hF hW hS⟩ rfl (by rw [List.length_map]; exact hlenA) (pm_lsz hl hz) hstk (by show 2 * 0 + _ ≤ 8; omega) hd ⟨by omega, by omega⟩
    exact pm_ret_call fx hW hS hl hn hz hc hs le1 le2 hrun k
  · have hnw := hF.2.2.2.2.2.1 _ (pm_ml_nest hw)
    have hyq : pm_y b = q.1 := by unfold pm_y; rw [hq]
    have hnw : va_Nw (.methodLinkNest (pm_own o) ix q.1 "TrainBearers") s := by rw [← hyq]; exact hnw
    have h22 := hmk.2.2.2.2.2.2.1
    have hcn := va_cnB (R := R) (maxL := q.2.2.1) (bytes := q.2.1) (ret := q.2.2.2.1) (rm := { frames := d, cells := h'.1 - h.1, slots := h'.2.1 - h.2.1, locals := 64 * d }) dd.parameters.length fx.2.2.2.2.1 (pm_good hmk) rfl rfl rfl hnw (fx.2.2.2.2.1 _ hmk.2.2.1) ⟨hmk.2.2.2.1.1, hmk.2.2.2.1.2, by rw [hdd]; rfl⟩ ⟨hRf, by show 8 + (q.2.2.1 + 11) + 64 * d ≤ R.locals; omega⟩
    have hrun := va_runSN (H := H) (locs := locs) (cells := h.1 - c0) (slots := h.2.1 - s0) (As := As.map (pm_emb base adr fo)) (rest := (st.drop q.2.2.2.2.2.1).map (pm_emb base adr fo)) (e := e) (below := below) (meth := meth) (g := F0 m pc lsA (st.map (pm_emb base adr fo))) (pm_fixS fx) hM ⟨hcn, fx.2.2.2.2.1 _ hstt, trivial⟩ ⟨pm_Pc_blind, pm_Pc_pre (as := As) hF hW hS⟩ rfl (by rw [List.length_map]; exact hlenA) (pm_lsz hl hz) hstk (by show 2 * 0 + _ ≤ 8; omega) hd ⟨by omega, by omega⟩
    exact pm_ret_call fx hW hS hl hn hz hc hs le1 le2 hrun k
theorem pm_t_invokespecial {ix : Nat} (fx : pm_Fx p s m args meth c cc nL o ini base D dA adr fo L xs c0) (hC : pm_Call l base D dA adr fo L xs d call) (hRf : d + 1 ≤ R.frames) (hRl : 64 * d + 64 ≤ R.locals) (hd : decode cc pc = .ok (.invokespecial ix, len)) (hr : pm_rokB o (pc, .invokespecial ix, len, a, b, v) = true) (hst : pm_step (pm_sX L xs) call o ini ret pc ls st h (.invokespecial ix) len a b v = some (.inl s')) (hrc : s'.2.2.2.1 - c0 ≤ R.cells) (hrs : s'.2.2.2.2.1 - s0 ≤ R.slots) (k : pm_K p l e R s m args below meth c Q base D dA adr fo nL c0 s0 s') : pm_K p l e R s m args below meth c Q base D dA adr fo nL c0 s0 (pc, ls, st, h) := by
  have hr2 : (len == 3 && pm_mlA.any (fun q => q.1 == o && q.2.1 == ix && q.2.2.1 == a && q.2.2.2.1 == b)) = true := hr
  rw [Bool.and_eq_true, beq_iff_eq] at hr2
  obtain ⟨rfl, hw⟩ := hr2
  have hF := fx.2.2.2.2.2.2.1
  have hfo := hF.2.2.2.2.2.2.2.2.2.2.1
  replace hst : pm_inv (pm_sX L xs) call 2 pc ls st h a b = some (.inl s') := hst
  by_cases h4 : a = 4
  · subst h4
    replace hst : (match 2, st with
      | 2, .ref _ :: r => bif pm_w8 r then pm_go (pc + 3) ls r h else none
      | _, _ => none) = some (.inl s') := hst
    split at hst
    · next q r _ =>
      cases h8 : pm_w8 r with
      | false => rw [h8] at hst; cases hst
      | true =>
        rw [h8] at hst
        obtain rfl := pm_go_inv hst
        have hwd : Cond.methodLink (pm_own o) ix Lib.objectInit ∈ pm_gw := pm_ml_word hw (by decide)
        intro H locs lsA hW hS hl hn hz hc hs
        have h8' := pm_w8_emb (base := base) (adr := adr) hfo h8
        exact W.objInit (g := F0 m pc lsA ((Value.ref q :: r).map (pm_emb base adr fo))) fx.1 fx.2.1 fx.2.2.2.1 (fx.2.2.2.2.1 _ hwd) (fx.2.2.2.2.1 _ pm_w_oi) (fx.2.2.2.2.1 _ pm_w_oc) rfl ((pm_lsz hl hz).trans fx.2.2.1.symm) rfl hd (by omega) (by show 2 * 0 + _ + 12 ≤ R.locals; omega) (k H locs lsA hW hS hl hn hz hc hs)
    · cases hst
  by_cases h5 : a = 5
  · subst h5
    unfold pm_inv at hst
    split at hst <;> first | cases hst | contradiction
  by_cases h6 : a = 6
  · subst h6
    unfold pm_inv at hst
    split at hst <;> first | cases hst | contradiction
  obtain ⟨q, hq, hcl, hik⟩ := pm_inv_call h4 h5 h6 hst
  obtain ⟨q', dd, hq', hdd, hkind⟩ := pm_ml_kind hw h4 h5 h6
  cases hq.symm.trans hq'
  have hmk := pm_mt_ok hq
  obtain ⟨h', r, hcall, hna, h8, hrcv, rfl⟩ := pm_call_inv hcl
  obtain ⟨le1, le2, hM⟩ := hC _ _ _ _ _ hcall
  have hM := hM q hq
  have hrc : h'.1 - c0 ≤ R.cells := hrc
  have hrs : h'.2.1 - s0 ≤ R.slots := hrs
  have hkd : a = 2 ∧ dd.parameters.length + 1 = q.2.2.2.2.2.1 ∧ q.1.name = "<init>" ∧ q.2.2.2.1 = none := by
    rcases hkind with ⟨g1, g2, g3⟩ | ⟨g1, g2, g3, g4⟩ | hg | ⟨g1, -⟩
    · subst g1; cases hik
    · subst g1; cases hik
    · exact hg
    · rcases g1 with rfl | rfl <;> cases hik
  obtain ⟨rfl, hnp, hni, hrn⟩ := hkd
  have hwd := pm_ml_word hw (by decide)
  rw [pm_mw_call hq (by decide) h4 h5 h6] at hwd
  obtain ⟨d2, hd2, hor⟩ := hmk.2.2.2.2.2.1
  cases hdd.symm.trans hd2
  have hins : Cond.instanceMethod q.1 ∈ pm_gw := by
    rcases hor with ⟨g1, -⟩ | ⟨-, g2, g3⟩
    · omega
    · exact g2
  cases has : (st.take q.2.2.2.2.2.1).reverse with
  | nil =>
    unfold pm_rcv at hrcv
    rw [pm_take_nil has] at hrcv
    cases hrcv
  | cons w0 As =>
    obtain ⟨hst2, hlast⟩ := pm_take has
    rw [has] at hM
    unfold pm_rcv at hrcv
    rw [hlast] at hrcv
    have hlenA : As.length = dd.parameters.length := by
      have g := congrArg List.length has
      simp at g
      omega
    replace hrcv : (match pm_obj h w0 with
      | some x => decide (pm_cnm x.2.1 = q.1.cls)
      | none => false) = true := hrcv
    split at hrcv
    · next z hz1 =>
      obtain ⟨rfl, hlt, hcell⟩ := pm_obj_inv hz1
      intro H locs lsA hW hS hl hn hz hc hs
      have hc : c0 ≤ h.1 := hc
      have hs : s0 ≤ h.2.1 := hs
      have h8' := pm_w8_emb (base := base) (adr := adr) hfo h8
      have hcb := pm_callB (mc := h'.1 - h.1) (ms := h'.2.1 - h.2.1) fx hmk hRf hRl ⟨dd, hdd, rfl⟩ hwd
      rw [hrn] at hcb
      have hrun := va_runI (H := H) (locs := locs) (cells := h.1 - c0) (slots := h.2.1 - s0) (b := base + z.1) (As := As.map (pm_emb base adr fo)) (rest := (st.drop q.2.2.2.2.2.1).map (pm_emb base adr fo)) (e := e) (below := below) (meth := meth) (g := F0 m pc lsA (st.map (pm_emb base adr fo))) (pm_fixS fx) hM ⟨hcb, hni, fx.2.2.2.2.1 _ hins⟩ ⟨pm_Pc_blind, pm_Pc_pre (as := .ref z.1 :: As) hF hW hS⟩ rfl (by rw [List.length_map]; exact hlenA) (pm_lsz hl hz) (by
        show st.map (pm_emb base adr fo) = _
        conv => lhs; rw [hst2]
        rw [List.map_append, List.map_reverse, List.map_cons]
        rfl) (by show 2 * 0 + _ ≤ 8; omega) hd ⟨by omega, by omega⟩
      exact pm_ret_call fx hW hS hl hn hz hc hs le1 le2 hrun k
    · cases hrcv
end SIM4
