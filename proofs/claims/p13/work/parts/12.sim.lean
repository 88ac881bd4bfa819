/-! the simulation: new cells, arrays, returns -/
theorem pm_RA_nm {U : State} {cA : ClassId} {ty : FieldType} (h : va_RA U cA ty) : U.vm.findClass ("[" ++ ty.toString) = some cA := by
  cases ty with
  | object C => obtain ⟨_, _, _, _, _, h4⟩ := h; exact h4
  | _ => exact h
theorem pm_RA_eq {U : State} {c1 c2 : ClassId} {ty : FieldType} (h1 : va_RA U c1 ty) (h2 : va_RA U c2 ty) : c1 = c2 := Option.some.inj ((pm_RA_nm h1).symm.trans (pm_RA_nm h2))
theorem pm_dflt {base : Nat} {adr : Nat → Nat} {fo : Value} (ty : FieldType) : pm_emb base adr fo (defaultValue ty) = defaultValue ty := by cases ty <;> rfl
theorem pm_embA_1 {base : Nat} (x : vp_A) : (pm_embA base x).1 = x.1 := by
  obtain ⟨n, f | f | f | f | f⟩ := x <;> rfl
def pm_rI (ret : Option FieldType) (st : List Value) (h : pm_H) : Option (pm_S ⊕ pm_R) := match st with
      | [.int x] => bif pm_ret ret x then some (.inr (h, some (.int x))) else none
      | _ => none
def pm_rL (ret : Option FieldType) (st : List Value) (h : pm_H) : Option (pm_S ⊕ pm_R) := match st with
      | [.long x] => bif decide (ret = some .long) then some (.inr (h, some (.long x))) else none
      | _ => none
def pm_rA (ret : Option FieldType) (st : List Value) (h : pm_H) : Option (pm_S ⊕ pm_R) := match st, ret with
      | [.ref x], some (.object _) => some (.inr (h, some (.ref x)))
      | [.ref x], some (.array _) => some (.inr (h, some (.ref x)))
      | [.null], some (.object _) => some (.inr (h, some .null))
      | [.null], some (.array _) => some (.inr (h, some .null))
      | _, _ => none
def pm_rV (ret : Option FieldType) (st : List Value) (h : pm_H) : Option (pm_S ⊕ pm_R) := match st, ret with
      | [], none => some (.inr (h, none))
      | _, _ => none
section SIM3
variable {p : Program} {l : Launch} {e : Env} {R : Room} {s : State} {m : MethodId} {args : Array Value} {below : List Frame} {meth : Method} {c : Code} {Q : State → Prop}
variable {base : Nat} {D : va_G} {dA : Nat → ClassId} {adr : Nat → Nat} {fo : Value} {L : Nat} {xs : Nat → Int32} {nL c0 s0 o d : Nat} {ini : Bool} {cc : ByteArray} {X : pm_X} {call : Nat → List Value → pm_H → Option pm_R} {ret : Option FieldType}
variable {pc len a b : Nat} {ls : pm_Ls} {st : List Value} {h : pm_H} {v : Value} {s' : pm_S}
theorem pm_hA {H : Heap} (hW : pm_W base D dA adr fo h H) : ∀ q, H.size ≤ q → pm_A base q := by
  intro q hq
  have := hW.1
  show base ≤ q
  omega
theorem pm_newV (ci : Nat) {q : vw_C} (hq : pm_cls[ci]? = some q) : ∀ j, j < q.2.2 → defaultValue (pm_ty ci j) = vp_V ((pm_newN ci).map (pm_emb base adr fo)) j := by
  intro j hj
  unfold vp_V pm_newN
  rw [hq]
  simp only [List.map_map]
  rw [List.getD_eq_getElem?_getD, List.getElem?_map, List.getElem?_range hj]
  show _ = pm_emb base adr fo (defaultValue (pm_ty ci j))
  rw [pm_dflt]
theorem pm_t_new {ix : Nat} (fx : pm_Fx p s m args meth c cc nL o ini base D dA adr fo L xs c0) (hd : decode cc pc = .ok (.new ix, len)) (hr : pm_rokB o (pc, .new ix, len, a, b, v) = true) (hst : pm_step X call o ini ret pc ls st h (.new ix) len a b v = some (.inl s')) (hrc : s'.2.2.2.1 - c0 ≤ R.cells) (hrs : s'.2.2.2.2.1 - s0 ≤ R.slots) (k : pm_K p l e R s m args below meth c Q base D dA adr fo nL c0 s0 s') : pm_K p l e R s m args below meth c Q base D dA adr fo nL c0 s0 (pc, ls, st, h) := by
  have hr2 : (len == 3 && pm_nlA.any (fun q => q.1 == o && q.2.1 == ix && q.2.2.1 == a)) = true := hr
  rw [Bool.and_eq_true, beq_iff_eq] at hr2
  obtain ⟨rfl, hw⟩ := hr2
  have hwd := pm_nl_word hw
  replace hst : (bif decide (a < 12) then pm_go (pc + 3) ls (.ref h.1 :: st) (pm_hpush h (pm_cn a) (.inr (a, pm_newN a))) else none) = some (.inl s') := hst
  by_cases ha : a < 12
  · rw [decide_eq_true ha] at hst
    obtain rfl := pm_go_inv hst
    have hrc : h.1 + 1 - c0 ≤ R.cells := hrc
    have hrs : h.2.1 + pm_cn a - s0 ≤ R.slots := hrs
    have hlt : a < pm_cls.length := by rw [pm_clen.1]; exact ha
    have hq : pm_cls[a]? = some pm_cls[a] := List.getElem?_eq_getElem hlt
    revert hq
    generalize pm_cls[a] = q
    intro hq
    have hcn : pm_cn a = q.2.2 := by unfold pm_cn; rw [hq]
    have hce : pm_cnm a = q.1 := by unfold pm_cnm; rw [hq]
    rw [hce] at hwd
    intro H locs lsA hW hS hl hn hz hc hs
    have hc : c0 ≤ h.1 := hc
    have hs : s0 ≤ h.2.1 := hs
    obtain ⟨w1, w2, w3⟩ := pm_cls_ok hq
    have k2 : pm_K p l e R s m args below meth c Q base D dA adr fo nL c0 s0 (pc + 3, ls, .ref h.1 :: st, pm_hpush h q.2.2 (.inr (a, pm_newN a))) := by rw [← hcn]; exact k
    refine va_new (C := q.1) (T := q.2.1) (N := q.2.2) (ci := a) fx.1 fx.2.1 fx.2.2.2.2.1 w1 (pm_ty a) (pm_cls_ty hq) fx.2.2.2.1 (fx.2.2.2.2.1 _ hwd) (fx.2.2.2.2.1 _ w3) (fx.2.2.2.2.1 _ w2) fx.2.2.2.2.2.2.1.1 hW.P pm_wl_D (pm_S0 hS) (pm_hA hW) hq (fs := (pm_newN a).map (pm_emb base adr fo)) (pm_newV a hq) (by show h.1 - c0 + 1 ≤ R.cells; omega) (by show h.2.1 - s0 + q.2.2 ≤ R.slots; omega) hd (fun q1 H1 hP1 hD1 hS1 => ?_)
    exact pm_newc (x := .inr (a, pm_newN a)) fx hW hS hc hs hl hn hz hP1 hD1 hS1 k2
  · rw [decide_eq_false ha] at hst; cases hst
theorem pm_t_newarray {at1 : ArrayType} (fx : pm_Fx p s m args meth c cc nL o ini base D dA adr fo L xs c0) (hd : decode cc pc = .ok (.newarray at1, len)) (hr : pm_rokB o (pc, .newarray at1, len, a, b, v) = true) (hst : pm_step X call o ini ret pc ls st h (.newarray at1) len a b v = some (.inl s')) (hrc : s'.2.2.2.1 - c0 ≤ R.cells) (hrs : s'.2.2.2.2.1 - s0 ≤ R.slots) (k : pm_K p l e R s m args below meth c Q base D dA adr fo nL c0 s0 s') : pm_K p l e R s m args below meth c Q base D dA adr fo nL c0 s0 (pc, ls, st, h) := by
  have hlen : len = 2 := by simpa [pm_rokB, pm_unl, pm_lk] using hr
  subst hlen
  replace hst : (match st with
    | .int n :: r => bif decide (n < 0) || decide (16777216 < n.toNatClampNeg) then none else (match at1 with
      | .int => pm_go (pc + 2) ls (.ref h.1 :: r) (pm_hpush h n.toNatClampNeg (.inl (0, n.toNatClampNeg, .inl (fun _ => 0))))
      | .long => pm_go (pc + 2) ls (.ref h.1 :: r) (pm_hpush h n.toNatClampNeg (.inl (1, n.toNatClampNeg, .inr (.inl (fun _ => 0)))))
      | .boolean => pm_go (pc + 2) ls (.ref h.1 :: r) (pm_hpush h n.toNatClampNeg (.inl (2, n.toNatClampNeg, .inl (fun _ => 0))))
      | _ => none)
    | _ => none) = some (.inl s') := hst
  split at hst
  · next n r =>
    cases hg : (decide (n < 0) || decide (16777216 < n.toNatClampNeg)) with
    | true => rw [hg] at hst; cases hst
    | false =>
      rw [hg] at hst
      rw [Bool.or_eq_false_iff, decide_eq_false_iff_not, decide_eq_false_iff_not] at hg
      obtain ⟨hg1, hg2⟩ := hg
      cases at1 with
      | int =>
        obtain rfl := pm_go_inv hst
        have hrc : h.1 + 1 - c0 ≤ R.cells := hrc
        have hrs : h.2.1 + n.toNatClampNeg - s0 ≤ R.slots := hrs
        intro H locs lsA hW hS hl hn hz hc hs
        have hc : c0 ≤ h.1 := hc
        have hs : s0 ≤ h.2.1 := hs
        refine va_newa (atype := .int) (ty := .int) fx.1 fx.2.1 (fx.2.2.2.2.1 _ pm_ac0) rfl fx.2.2.2.2.2.2.1.1 hW.P pm_wl_D (pm_S0 hS) (pm_hA hW) (n := n) (N' := n.toNatClampNeg) (a0 := (n.toNatClampNeg, .inl (fun _ => 0))) (fun cA => rfl) hg1 rfl (by show n.toNatClampNeg * 4 ≤ 536870912; omega) (by show h.1 - c0 + 1 ≤ R.cells; omega) (by show h.2.1 - s0 + n.toNatClampNeg ≤ R.slots; omega) hd (fun q cA H1 hK1 hP1 hD1 hS1 => ?_)
        obtain rfl : cA = dA 0 := pm_RA_eq (hK1.2 5 (cA, .int) rfl).2 (hK1.2 0 (dA 0, .int) rfl).2
        exact pm_newc (x := .inl (0, n.toNatClampNeg, .inl (fun _ => 0))) fx hW hS hc hs hl hn hz hP1 hD1 hS1 k
      | long =>
        obtain rfl := pm_go_inv hst
        have hrc : h.1 + 1 - c0 ≤ R.cells := hrc
        have hrs : h.2.1 + n.toNatClampNeg - s0 ≤ R.slots := hrs
        intro H locs lsA hW hS hl hn hz hc hs
        have hc : c0 ≤ h.1 := hc
        have hs : s0 ≤ h.2.1 := hs
        refine va_newa (atype := .long) (ty := .long) fx.1 fx.2.1 (fx.2.2.2.2.1 _ pm_ac1) rfl fx.2.2.2.2.2.2.1.1 hW.P pm_wl_D (pm_S0 hS) (pm_hA hW) (n := n) (N' := n.toNatClampNeg) (a0 := (n.toNatClampNeg, .inr (.inl (fun _ => 0)))) (fun cA => rfl) hg1 rfl (by show n.toNatClampNeg * 8 ≤ 536870912; omega) (by show h.1 - c0 + 1 ≤ R.cells; omega) (by show h.2.1 - s0 + n.toNatClampNeg ≤ R.slots; omega) hd (fun q cA H1 hK1 hP1 hD1 hS1 => ?_)
        obtain rfl : cA = dA 1 := pm_RA_eq (hK1.2 5 (cA, .long) rfl).2 (hK1.2 1 (dA 1, .long) rfl).2
        exact pm_newc (x := .inl (1, n.toNatClampNeg, .inr (.inl (fun _ => 0)))) fx hW hS hc hs hl hn hz hP1 hD1 hS1 k
      | boolean =>
        obtain rfl := pm_go_inv hst
        have hrc : h.1 + 1 - c0 ≤ R.cells := hrc
        have hrs : h.2.1 + n.toNatClampNeg - s0 ≤ R.slots := hrs
        intro H locs lsA hW hS hl hn hz hc hs
        have hc : c0 ≤ h.1 := hc
        have hs : s0 ≤ h.2.1 := hs
        refine va_newa (atype := .boolean) (ty := .boolean) fx.1 fx.2.1 (fx.2.2.2.2.1 _ pm_ac2) rfl fx.2.2.2.2.2.2.1.1 hW.P pm_wl_D (pm_S0 hS) (pm_hA hW) (n := n) (N' := n.toNatClampNeg) (a0 := (n.toNatClampNeg, .inl (fun _ => 0))) (fun cA => rfl) hg1 rfl (by show n.toNatClampNeg * 1 ≤ 536870912; omega) (by show h.1 - c0 + 1 ≤ R.cells; omega) (by show h.2.1 - s0 + n.toNatClampNeg ≤ R.slots; omega) hd (fun q cA H1 hK1 hP1 hD1 hS1 => ?_)
        obtain rfl : cA = dA 2 := pm_RA_eq (hK1.2 5 (cA, .boolean) rfl).2 (hK1.2 2 (dA 2, .boolean) rfl).2
        exact pm_newc (x := .inl (2, n.toNatClampNeg, .inl (fun _ => 0))) fx hW hS hc hs hl hn hz hP1 hD1 hS1 k
      | _ => cases hst
  · cases hst
theorem pm_t_anewarray {ix : Nat} (fx : pm_Fx p s m args meth c cc nL o ini base D dA adr fo L xs c0) (hd : decode cc pc = .ok (.anewarray ix, len)) (hr : pm_rokB o (pc, .anewarray ix, len, a, b, v) = true) (hst : pm_step X call o ini ret pc ls st h (.anewarray ix) len a b v = some (.inl s')) (hrc : s'.2.2.2.1 - c0 ≤ R.cells) (hrs : s'.2.2.2.2.1 - s0 ≤ R.slots) (k : pm_K p l e R s m args below meth c Q base D dA adr fo nL c0 s0 s') : pm_K p l e R s m args below meth c Q base D dA adr fo nL c0 s0 (pc, ls, st, h) := by
  have hr2 : (len == 3 && pm_alA.any (fun q => q.1 == o && q.2.1 == ix && q.2.2.1 == a)) = true := hr
  rw [Bool.and_eq_true, beq_iff_eq] at hr2
  obtain ⟨rfl, hw⟩ := hr2
  have hwd := pm_al_word hw
  replace hst : (match st with
    | .int n :: r => bif decide (n < 0) || decide (16777216 < n.toNatClampNeg) || !(a == 3 || a == 4) then none else pm_go (pc + 3) ls (.ref h.1 :: r) (pm_hpush h n.toNatClampNeg (.inl (a, n.toNatClampNeg, .inr (.inr (.inr (.inr (fun _ => none)))))))
    | _ => none) = some (.inl s') := hst
  split at hst
  · next n r =>
    cases hg : (decide (n < 0) || decide (16777216 < n.toNatClampNeg) || !(a == 3 || a == 4)) with
    | true => rw [hg] at hst; cases hst
    | false =>
      rw [hg] at hst
      rw [Bool.or_eq_false_iff, Bool.or_eq_false_iff, decide_eq_false_iff_not, decide_eq_false_iff_not, Bool.not_eq_false', Bool.or_eq_true, beq_iff_eq, beq_iff_eq] at hg
      obtain ⟨⟨hg1, hg2⟩, hg3⟩ := hg
      obtain rfl := pm_go_inv hst
      have hrc : h.1 + 1 - c0 ≤ R.cells := hrc
      have hrs : h.2.1 + n.toNatClampNeg - s0 ≤ R.slots := hrs
      have hF := fx.2.2.2.2.2.2.1
      intro H locs lsA hW hS hl hn hz hc hs
      have hc : c0 ≤ h.1 := hc
      have hs : s0 ≤ h.2.1 := hs
      rcases hg3 with rfl | rfl
      · refine va_newq (C := "TrainBearers$Text") fx.1 fx.2.1 fx.2.2.2.1 (fx.2.2.2.2.1 _ hwd) hF.2.2.2.1 hF.1 hW.P pm_wl_D (pm_S0 hS) (pm_hA hW) (n := n) (N' := n.toNatClampNeg) hg1 rfl (by omega) (by show h.1 - c0 + 1 ≤ R.cells; omega) (by show h.2.1 - s0 + n.toNatClampNeg ≤ R.slots; omega) hd (fun q cA H1 hK1 hP1 hD1 hS1 => ?_)
        obtain rfl : cA = dA 3 := pm_RA_eq (hK1.2 5 (cA, .object "TrainBearers$Text") rfl).2 (hK1.2 3 (dA 3, .object "TrainBearers$Text") rfl).2
        exact pm_newc (x := .inl (3, n.toNatClampNeg, .inr (.inr (.inr (.inr (fun _ => none)))))) fx hW hS hc hs hl hn hz hP1 hD1 hS1 k
      · refine va_newq (C := "TrainBearers$Train") fx.1 fx.2.1 fx.2.2.2.1 (fx.2.2.2.2.1 _ hwd) hF.2.2.2.2.1 hF.1 hW.P pm_wl_D (pm_S0 hS) (pm_hA hW) (n := n) (N' := n.toNatClampNeg) hg1 rfl (by omega) (by show h.1 - c0 + 1 ≤ R.cells; omega) (by show h.2.1 - s0 + n.toNatClampNeg ≤ R.slots; omega) hd (fun q cA H1 hK1 hP1 hD1 hS1 => ?_)
        obtain rfl : cA = dA 4 := pm_RA_eq (hK1.2 5 (cA, .object "TrainBearers$Train") rfl).2 (hK1.2 4 (dA 4, .object "TrainBearers$Train") rfl).2
        exact pm_newc (x := .inl (4, n.toNatClampNeg, .inr (.inr (.inr (.inr (fun _ => none)))))) fx hW hS hc hs hl hn hz hP1 hD1 hS1 k
  · cases hst
theorem pm_tys_get {t : Nat} (ht : t < 5) : ∃ ty, (pm_tys dA)[t]? = some (dA t, ty) := by
  match t, ht with
  | 0, _ => exact ⟨_, rfl⟩
  | 1, _ => exact ⟨_, rfl⟩
  | 2, _ => exact ⟨_, rfl⟩
  | 3, _ => exact ⟨_, rfl⟩
  | 4, _ => exact ⟨_, rfl⟩
  | n + 5, h => exact absurd h (by omega)
theorem pm_tys_q {t : Nat} (ht : t = 3 ∨ t = 4) : ∃ q : vw_C, pm_cls[pm_ak t]? = some q ∧ (pm_tys dA)[t]? = some (dA t, .object q.1) := by
  rcases ht with rfl | rfl
  · exact ⟨_, rfl, rfl⟩
  · exact ⟨_, rfl, rfl⟩
theorem pm_t_arraylength (fx : pm_Fx p s m args meth c cc nL o ini base D dA adr fo L xs c0) (hd : decode cc pc = .ok (.arraylength, len)) (hr : pm_rokB o (pc, .arraylength, len, a, b, v) = true) (hst : pm_step (pm_sX L xs) call o ini ret pc ls st h (.arraylength) len a b v = some (.inl s')) (k : pm_K p l e R s m args below meth c Q base D dA adr fo nL c0 s0 s') : pm_K p l e R s m args below meth c Q base D dA adr fo nL c0 s0 (pc, ls, st, h) := by
  obtain rfl := pm_len1 hr rfl
  replace hst : (match st with
    | w :: r => (match pm_arr (pm_sX L xs) h w with
      | some (t, n, _) => bif decide (t < 5) || pm_isS w then pm_go (pc + 1) ls (.int (Int32.ofNat n) :: r) h else none
      | none => none)
    | _ => none) = some (.inl s') := hst
  split at hst
  · next w r =>
    split at hst
    · next t n y hx =>
      cases hg : (decide (t < 5) || pm_isS w) with
      | false => rw [hg] at hst; cases hst
      | true =>
        rw [hg] at hst
        obtain rfl := pm_go_inv hst
        rcases pm_arr_or hx with ⟨q, rfl, hq, hc1⟩ | ⟨j, z, rfl, hj, hz1⟩
        · have ht : t < 5 := by simpa [pm_isS] using hg
          obtain ⟨ty, hty⟩ := pm_tys_get (dA := dA) ht
          intro H locs lsA hW hS hl hn hz hc hs
          exact va_alen fx.1 fx.2.1 fx.2.2.2.2.2.2.1.1 hW.P q t (pm_at_arr hW hq hc1) hty (by rw [pm_embA_1]) hd (k H locs lsA hW hS hl hn hz hc hs)
        · obtain ⟨z1, z2, z3⟩ := z
          cases hz1
          have hT := fx.2.2.2.2.2.2.1.2.1 j _ _ _ hj
          intro H locs lsA hW hS hl hn hz hc hs
          show W p l e R s m args below meth c H locs (h.1 - c0) (h.2.1 - s0) Q (F0 m pc lsA (pm_emb base adr fo (.retAddr j) :: r.map (pm_emb base adr fo)))
          rw [pm_emb_st (pm_sX_not300 hj)]
          exact va_tlen fx.1 fx.2.1 hT hS rfl hd (k H locs lsA hW hS hl hn hz hc hs)
    · cases hst
  · cases hst
theorem pm_t_iaload (fx : pm_Fx p s m args meth c cc nL o ini base D dA adr fo L xs c0) (hd : decode cc pc = .ok (.iaload, len)) (hr : pm_rokB o (pc, .iaload, len, a, b, v) = true) (hst : pm_step (pm_sX L xs) call o ini ret pc ls st h (.iaload) len a b v = some (.inl s')) (k : pm_K p l e R s m args below meth c Q base D dA adr fo nL c0 s0 s') : pm_K p l e R s m args below meth c Q base D dA adr fo nL c0 s0 (pc, ls, st, h) := by
  obtain rfl := pm_len1 hr rfl
  replace hst : (match st with
    | .int j :: w :: r => (match pm_arr (pm_sX L xs) h w with
      | some (t, n, .inl f) => bif t == 0 && pm_in j n then pm_go (pc + 1) ls (.int (f j.toNatClampNeg) :: r) h else none
      | _ => none)
    | _ => none) = some (.inl s') := hst
  split at hst
  · next j w r =>
    split at hst
    · next t n f hx =>
      cases hg : (t == 0 && pm_in j n) with
      | false => rw [hg] at hst; cases hst
      | true =>
        rw [hg] at hst
        rw [Bool.and_eq_true, beq_iff_eq] at hg
        obtain ⟨rfl, hin⟩ := hg
        obtain rfl := pm_go_inv hst
        rcases pm_arr_or hx with ⟨q, rfl, hq, hc1⟩ | ⟨j1, z, rfl, hj, hz1⟩
        · intro H locs lsA hW hS hl hn hz hc hs
          exact va_iald fx.1 fx.2.1 fx.2.2.2.2.2.2.1.1 hW.P q 0 (pm_at_arr hW hq hc1) rfl (pm_in_iff hin) hd (k H locs lsA hW hS hl hn hz hc hs)
        · obtain ⟨z1, z2, z3⟩ := z
          cases hz1
          have hT := fx.2.2.2.2.2.2.1.2.1 j1 _ _ _ hj
          intro H locs lsA hW hS hl hn hz hc hs
          show W p l e R s m args below meth c H locs (h.1 - c0) (h.2.1 - s0) Q (F0 m pc lsA (.int j :: pm_emb base adr fo (.retAddr j1) :: r.map (pm_emb base adr fo)))
          rw [pm_emb_st (pm_sX_not300 hj)]
          exact va_ti fx.1 fx.2.1 hT hS (pm_in_iff hin) rfl hd (k H locs lsA hW hS hl hn hz hc hs)
    · cases hst
  · cases hst
theorem pm_t_baload (fx : pm_Fx p s m args meth c cc nL o ini base D dA adr fo L xs c0) (hd : decode cc pc = .ok (.baload, len)) (hr : pm_rokB o (pc, .baload, len, a, b, v) = true) (hst : pm_step (pm_sX L xs) call o ini ret pc ls st h (.baload) len a b v = some (.inl s')) (k : pm_K p l e R s m args below meth c Q base D dA adr fo nL c0 s0 s') : pm_K p l e R s m args below meth c Q base D dA adr fo nL c0 s0 (pc, ls, st, h) := by
  obtain rfl := pm_len1 hr rfl
  replace hst : (match st with
    | .int j :: w :: r => (match pm_arr (pm_sX L xs) h w with
      | some (t, n, .inl f) => bif (t == 2 || (t == 5 && pm_isS w)) && pm_in j n then pm_go (pc + 1) ls (.int (f j.toNatClampNeg) :: r) h else none
      | _ => none)
    | _ => none) = some (.inl s') := hst
  split at hst
  · next j w r =>
    split at hst
    · next t n f hx =>
      cases hg : ((t == 2 || (t == 5 && pm_isS w)) && pm_in j n) with
      | false => rw [hg] at hst; cases hst
      | true =>
        rw [hg] at hst
        rw [Bool.and_eq_true, Bool.or_eq_true, Bool.and_eq_true, beq_iff_eq, beq_iff_eq] at hg
        obtain ⟨ht, hin⟩ := hg
        obtain rfl := pm_go_inv hst
        rcases pm_arr_or hx with ⟨q, rfl, hq, hc1⟩ | ⟨j1, z, rfl, hj, hz1⟩
        · rcases ht with rfl | ⟨-, ht⟩
          · intro H locs lsA hW hS hl hn hz hc hs
            exact va_zald fx.1 fx.2.1 fx.2.2.2.2.2.2.1.1 hW.P q 2 (pm_at_arr hW hq hc1) rfl (pm_in_iff hin) hd (k H locs lsA hW hS hl hn hz hc hs)
          · cases ht
        · obtain ⟨z1, z2, z3⟩ := z
          cases hz1
          have hT := fx.2.2.2.2.2.2.1.2.1 j1 _ _ _ hj
          rcases ht with rfl | ⟨rfl, -⟩
          · rcases pm_sX_kind hj with hk | hk <;> cases hk
          · intro H locs lsA hW hS hl hn hz hc hs
            show W p l e R s m args below meth c H locs (h.1 - c0) (h.2.1 - s0) Q (F0 m pc lsA (.int j :: pm_emb base adr fo (.retAddr j1) :: r.map (pm_emb base adr fo)))
            rw [pm_emb_st (pm_sX_not300 hj)]
            exact va_tb fx.1 fx.2.1 hT hS (pm_in_iff hin) rfl hd (k H locs lsA hW hS hl hn hz hc hs)
    · cases hst
  · cases hst
theorem pm_t_laload (fx : pm_Fx p s m args meth c cc nL o ini base D dA adr fo L xs c0) (hd : decode cc pc = .ok (.laload, len)) (hr : pm_rokB o (pc, .laload, len, a, b, v) = true) (hst : pm_step (pm_sX L xs) call o ini ret pc ls st h (.laload) len a b v = some (.inl s')) (k : pm_K p l e R s m args below meth c Q base D dA adr fo nL c0 s0 s') : pm_K p l e R s m args below meth c Q base D dA adr fo nL c0 s0 (pc, ls, st, h) := by
  obtain rfl := pm_len1 hr rfl
  replace hst : (match st with
    | .int j :: w :: r => (match pm_arr (pm_sX L xs) h w with
      | some (t, n, .inr (.inl f)) => bif t == 1 && pm_in j n then pm_go (pc + 1) ls (.long (f j.toNatClampNeg) :: r) h else none
      | _ => none)
    | _ => none) = some (.inl s') := hst
  split at hst
  · next j w r =>
    split at hst
    · next t n f hx =>
      cases hg : (t == 1 && pm_in j n) with
      | false => rw [hg] at hst; cases hst
      | true =>
        rw [hg] at hst
        rw [Bool.and_eq_true, beq_iff_eq] at hg
        obtain ⟨rfl, hin⟩ := hg
        obtain rfl := pm_go_inv hst
        rcases pm_arr_or hx with ⟨q, rfl, hq, hc1⟩ | ⟨j1, z, rfl, hj, hz1⟩
        · intro H locs lsA hW hS hl hn hz hc hs
          exact va_lald fx.1 fx.2.1 fx.2.2.2.2.2.2.1.1 hW.P q 1 (pm_at_arr hW hq hc1) rfl (pm_in_iff hin) hd (k H locs lsA hW hS hl hn hz hc hs)
        · have hz2 := congrArg (fun q : Nat × vp_A => q.2.2) hz1
          cases hz2
    · cases hst
  · cases hst
theorem pm_rf_emb (r : Option Nat) : pm_emb base adr fo (va_rf r) = va_rf (r.map (fun k => base + k)) := by cases r <;> rfl
theorem pm_t_aaload (fx : pm_Fx p s m args meth c cc nL o ini base D dA adr fo L xs c0) (hd : decode cc pc = .ok (.aaload, len)) (hr : pm_rokB o (pc, .aaload, len, a, b, v) = true) (hst : pm_step (pm_sX L xs) call o ini ret pc ls st h (.aaload) len a b v = some (.inl s')) (k : pm_K p l e R s m args below meth c Q base D dA adr fo nL c0 s0 s') : pm_K p l e R s m args below meth c Q base D dA adr fo nL c0 s0 (pc, ls, st, h) := by
  obtain rfl := pm_len1 hr rfl
  replace hst : (match st with
    | .int j :: w :: r => (match pm_arr (pm_sX L xs) h w with
      | some (t, n, .inr (.inr (.inr (.inr f)))) => bif (t == 3 || t == 4) && pm_in j n then pm_go (pc + 1) ls (va_rf (f j.toNatClampNeg) :: r) h else none
      | _ => none)
    | _ => none) = some (.inl s') := hst
  split at hst
  · next j w r =>
    split at hst
    · next t n f hx =>
      cases hg : ((t == 3 || t == 4) && pm_in j n) with
      | false => rw [hg] at hst; cases hst
      | true =>
        rw [hg] at hst
        rw [Bool.and_eq_true, Bool.or_eq_true, beq_iff_eq, beq_iff_eq] at hg
        obtain ⟨ht, hin⟩ := hg
        obtain rfl := pm_go_inv hst
        rcases pm_arr_or hx with ⟨q, rfl, hq, hc1⟩ | ⟨j1, z, rfl, hj, hz1⟩
        · obtain ⟨qc, -, hty⟩ := pm_tys_q (dA := dA) ht
          intro H locs lsA hW hS hl hn hz hc hs
          have kk := k H locs lsA hW hS hl hn hz hc hs
          have kk : W p l e R s m args below meth c H locs (h.1 - c0) (h.2.1 - s0) Q (F0 m (pc + 1) lsA (pm_emb base adr fo (va_rf (f j.toNatClampNeg)) :: r.map (pm_emb base adr fo))) := kk
          rw [pm_rf_emb] at kk
          exact va_aldq (f := fun j => (f j).map (fun k => base + k)) fx.1 fx.2.1 fx.2.2.2.2.2.2.1.1 hW.P q t (pm_at_arr hW hq hc1) hty (pm_in_iff hin) hd kk
        · have hz2 := congrArg (fun q : Nat × vp_A => q.2.2) hz1
          cases hz2
    · cases hst
  · cases hst
theorem pm_t_iastore (fx : pm_Fx p s m args meth c cc nL o ini base D dA adr fo L xs c0) (hd : decode cc pc = .ok (.iastore, len)) (hr : pm_rokB o (pc, .iastore, len, a, b, v) = true) (hst : pm_step X call o ini ret pc ls st h (.iastore) len a b v = some (.inl s')) (k : pm_K p l e R s m args below meth c Q base D dA adr fo nL c0 s0 s') : pm_K p l e R s m args below meth c Q base D dA adr fo nL c0 s0 (pc, ls, st, h) := by
  obtain rfl := pm_len1 hr rfl
  replace hst : (match st with
    | .int x :: .int j :: .ref q :: r => (match pm_arr X h (.ref q) with
      | some (t, n, .inl f) => bif t == 0 && pm_in j n then pm_go (pc + 1) ls r (pm_hset h q (.inl (0, n, .inl (upd f j.toNatClampNeg x)))) else none
      | _ => none)
    | _ => none) = some (.inl s') := hst
  split at hst
  · next x j q r =>
    split at hst
    · next t n f hx =>
      cases hg : (t == 0 && pm_in j n) with
      | false => rw [hg] at hst; cases hst
      | true =>
        rw [hg] at hst
        rw [Bool.and_eq_true, beq_iff_eq] at hg
        obtain ⟨rfl, hin⟩ := hg
        obtain rfl := pm_go_inv hst
        obtain ⟨hq, hc1⟩ := pm_arr_inv hx
        intro H locs lsA hW hS hl hn hz hc hs
        refine va_iast fx.1 fx.2.1 fx.2.2.2.2.2.2.1.1 hW.P pm_wl_D (pm_S0 hS) q 0 (pm_at_arr hW hq hc1) rfl (pm_in_iff hin) hd (fun H1 locs1 hP1 hD1 hS1 => ?_)
        have e1 : (pm_wl base dA adr fo h).set q (base + q, .inl (dA 0, n, .inl (upd f j.toNatClampNeg x))) = pm_wl base dA adr fo (pm_hset h q (.inl (0, n, .inl (upd f j.toNatClampNeg x)))) := by
          rw [← pm_wl_set hq]
          rfl
        have hP1 : va_P D pm_cls ((pm_wl base dA adr fo h).set q (base + q, .inl (dA 0, n, .inl (upd f j.toNatClampNeg x)))) H1 := hP1
        rw [e1] at hP1
        exact pm_store (h' := pm_hset h q (.inl (0, n, .inl (upd f j.toNatClampNeg x)))) fx hW hS hc hs hl hn hz rfl rfl hP1 hS1 k
    · cases hst
  · cases hst
theorem pm_t_bastore (fx : pm_Fx p s m args meth c cc nL o ini base D dA adr fo L xs c0) (hd : decode cc pc = .ok (.bastore, len)) (hr : pm_rokB o (pc, .bastore, len, a, b, v) = true) (hst : pm_step X call o ini ret pc ls st h (.bastore) len a b v = some (.inl s')) (k : pm_K p l e R s m args below meth c Q base D dA adr fo nL c0 s0 s') : pm_K p l e R s m args below meth c Q base D dA adr fo nL c0 s0 (pc, ls, st, h) := by
  obtain rfl := pm_len1 hr rfl
  replace hst : (match st with
    | .int x :: .int j :: .ref q :: r => (match pm_arr X h (.ref q) with
      | some (t, n, .inl f) => bif t == 2 && pm_in j n then pm_go (pc + 1) ls r (pm_hset h q (.inl (2, n, .inl (upd f j.toNatClampNeg (x &&& 1))))) else none
      | _ => none)
    | _ => none) = some (.inl s') := hst
  split at hst
  · next x j q r =>
    split at hst
    · next t n f hx =>
      cases hg : (t == 2 && pm_in j n) with
      | false => rw [hg] at hst; cases hst
      | true =>
        rw [hg] at hst
        rw [Bool.and_eq_true, beq_iff_eq] at hg
        obtain ⟨rfl, hin⟩ := hg
        obtain rfl := pm_go_inv hst
        obtain ⟨hq, hc1⟩ := pm_arr_inv hx
        intro H locs lsA hW hS hl hn hz hc hs
        refine va_zast fx.1 fx.2.1 fx.2.2.2.2.2.2.1.1 hW.P pm_wl_D (pm_S0 hS) q 2 (pm_at_arr hW hq hc1) rfl (pm_in_iff hin) hd (fun H1 locs1 hP1 hD1 hS1 => ?_)
        have e1 : (pm_wl base dA adr fo h).set q (base + q, .inl (dA 2, n, .inl (upd f j.toNatClampNeg (x &&& 1)))) = pm_wl base dA adr fo (pm_hset h q (.inl (2, n, .inl (upd f j.toNatClampNeg (x &&& 1))))) := by
          rw [← pm_wl_set hq]
          rfl
        have hP1 : va_P D pm_cls ((pm_wl base dA adr fo h).set q (base + q, .inl (dA 2, n, .inl (upd f j.toNatClampNeg (x &&& 1))))) H1 := hP1
        rw [e1] at hP1
        exact pm_store (h' := pm_hset h q (.inl (2, n, .inl (upd f j.toNatClampNeg (x &&& 1))))) fx hW hS hc hs hl hn hz rfl rfl hP1 hS1 k
    · cases hst
  · cases hst
theorem pm_t_lastore (fx : pm_Fx p s m args meth c cc nL o ini base D dA adr fo L xs c0) (hd : decode cc pc = .ok (.lastore, len)) (hr : pm_rokB o (pc, .lastore, len, a, b, v) = true) (hst : pm_step X call o ini ret pc ls st h (.lastore) len a b v = some (.inl s')) (k : pm_K p l e R s m args below meth c Q base D dA adr fo nL c0 s0 s') : pm_K p l e R s m args below meth c Q base D dA adr fo nL c0 s0 (pc, ls, st, h) := by
  obtain rfl := pm_len1 hr rfl
  replace hst : (match st with
    | .long x :: .int j :: .ref q :: r => (match pm_arr X h (.ref q) with
      | some (t, n, .inr (.inl f)) => bif t == 1 && pm_in j n then pm_go (pc + 1) ls r (pm_hset h q (.inl (1, n, .inr (.inl (vp_updL f j.toNatClampNeg x))))) else none
      | _ => none)
    | _ => none) = some (.inl s') := hst
  split at hst
  · next x j q r =>
    split at hst
    · next t n f hx =>
      cases hg : (t == 1 && pm_in j n) with
      | false => rw [hg] at hst; cases hst
      | true =>
        rw [hg] at hst
        rw [Bool.and_eq_true, beq_iff_eq] at hg
        obtain ⟨rfl, hin⟩ := hg
        obtain rfl := pm_go_inv hst
        obtain ⟨hq, hc1⟩ := pm_arr_inv hx
        intro H locs lsA hW hS hl hn hz hc hs
        refine va_last fx.1 fx.2.1 fx.2.2.2.2.2.2.1.1 hW.P pm_wl_D (pm_S0 hS) q 1 (pm_at_arr hW hq hc1) rfl (pm_in_iff hin) hd (fun H1 locs1 hP1 hD1 hS1 => ?_)
        have e1 : (pm_wl base dA adr fo h).set q (base + q, .inl (dA 1, n, .inr (.inl (vp_updL f j.toNatClampNeg x)))) = pm_wl base dA adr fo (pm_hset h q (.inl (1, n, .inr (.inl (vp_updL f j.toNatClampNeg x))))) := by
          rw [← pm_wl_set hq]
          rfl
        have hP1 : va_P D pm_cls ((pm_wl base dA adr fo h).set q (base + q, .inl (dA 1, n, .inr (.inl (vp_updL f j.toNatClampNeg x))))) H1 := hP1
        rw [e1] at hP1
        exact pm_store (h' := pm_hset h q (.inl (1, n, .inr (.inl (vp_updL f j.toNatClampNeg x))))) fx hW hS hc hs hl hn hz rfl rfl hP1 hS1 k
    · cases hst
  · cases hst
theorem pm_up_map {f : Nat → Option Nat} {j : Nat} {x : Option Nat} : (fun i => (va_up f j x i).map (fun k => base + k)) = va_up (fun i => (f i).map (fun k => base + k)) j (x.map (fun k => base + k)) := by
  funext i
  by_cases hi : i = j
  · subst hi; rw [va_up_self, va_up_self]
  · rw [va_up_ne _ _ hi, va_up_ne _ _ hi]
theorem pm_t_aastore (fx : pm_Fx p s m args meth c cc nL o ini base D dA adr fo L xs c0) (hd : decode cc pc = .ok (.aastore, len)) (hr : pm_rokB o (pc, .aastore, len, a, b, v) = true) (hst : pm_step X call o ini ret pc ls st h (.aastore) len a b v = some (.inl s')) (k : pm_K p l e R s m args below meth c Q base D dA adr fo nL c0 s0 s') : pm_K p l e R s m args below meth c Q base D dA adr fo nL c0 s0 (pc, ls, st, h) := by
  obtain rfl := pm_len1 hr rfl
  replace hst : (match st with
    | .null :: .int j :: .ref q :: r => (match pm_arr X h (.ref q) with
      | some (t, n, .inr (.inr (.inr (.inr f)))) => bif (t == 3 || t == 4) && pm_in j n then pm_go (pc + 1) ls r (pm_hset h q (.inl (t, n, .inr (.inr (.inr (.inr (va_up f j.toNatClampNeg none))))))) else none
      | _ => none)
    | .ref x :: .int j :: .ref q :: r => (match pm_arr X h (.ref q), pm_obj h (.ref x) with
      | some (t, n, .inr (.inr (.inr (.inr f)))), some (_, ci, _) => bif (t == 3 || t == 4) && pm_in j n && ci == pm_ak t then pm_go (pc + 1) ls r (pm_hset h q (.inl (t, n, .inr (.inr (.inr (.inr (va_up f j.toNatClampNeg (some x)))))))) else none
      | _, _ => none)
    | _ => none) = some (.inl s') := hst
  split at hst
  · next j q r =>
    split at hst
    · next t n f hx =>
      cases hg : ((t == 3 || t == 4) && pm_in j n) with
      | false => rw [hg] at hst; cases hst
      | true =>
        rw [hg] at hst
        rw [Bool.and_eq_true, Bool.or_eq_true, beq_iff_eq, beq_iff_eq] at hg
        obtain ⟨ht, hin⟩ := hg
        obtain rfl := pm_go_inv hst
        obtain ⟨hq, hc1⟩ := pm_arr_inv hx
        obtain ⟨qc, -, hty⟩ := pm_tys_q (dA := dA) ht
        intro H locs lsA hW hS hl hn hz hc hs
        refine va_astqN (f := fun i => (f i).map (fun k => base + k)) fx.1 fx.2.1 fx.2.2.2.2.2.2.1.1 hW.P pm_wl_D (pm_S0 hS) q t (pm_at_arr hW hq hc1) hty (pm_in_iff hin) hd (fun H1 locs1 hP1 hD1 hS1 => ?_)
        have e1 : (pm_wl base dA adr fo h).set q (base + q, .inl (dA t, n, .inr (.inr (.inr (.inr (va_up (fun i => (f i).map (fun k => base + k)) j.toNatClampNeg none)))))) = pm_wl base dA adr fo (pm_hset h q (.inl (t, n, .inr (.inr (.inr (.inr (va_up f j.toNatClampNeg none))))))) := by
          rw [← pm_wl_set hq]
          show _ = (pm_wl base dA adr fo h).set q (base + q, .inl (dA t, n, .inr (.inr (.inr (.inr (fun i => (va_up f j.toNatClampNeg none i).map (fun k => base + k)))))))
          rw [pm_up_map]
          rfl
        rw [e1] at hP1
        exact pm_store (h' := pm_hset h q (.inl (t, n, .inr (.inr (.inr (.inr (va_up f j.toNatClampNeg none))))))) fx hW hS hc hs hl hn hz rfl rfl hP1 hS1 k
    · cases hst
  · next x j q r =>
    split at hst
    · next t n f x' ci fs hx hy =>
      cases hg : ((t == 3 || t == 4) && pm_in j n && ci == pm_ak t) with
      | false => rw [hg] at hst; cases hst
      | true =>
        rw [hg] at hst
        rw [Bool.and_eq_true, Bool.and_eq_true, Bool.or_eq_true, beq_iff_eq, beq_iff_eq, beq_iff_eq] at hg
        obtain ⟨⟨ht, hin⟩, hci⟩ := hg
        obtain rfl := pm_go_inv hst
        obtain ⟨hq, hc1⟩ := pm_arr_inv hx
        obtain ⟨he, hyl, hcy⟩ := pm_obj_inv hy
        have he : x = x' := Value.ref.inj he
        subst he
        obtain ⟨qc, hqc, hty⟩ := pm_tys_q (dA := dA) ht
        rw [← hci] at hqc
        intro H locs lsA hW hS hl hn hz hc hs
        refine va_astq (f := fun i => (f i).map (fun k => base + k)) (r := qc) fx.1 fx.2.1 fx.2.2.2.2.2.2.1.1 hW.P pm_wl_D (pm_S0 hS) q t x ci (pm_at_arr hW hq hc1) hty (pm_at_obj hW hyl hcy) hqc (pm_in_iff hin) hd (fun H1 locs1 hP1 hD1 hS1 => ?_)
        have e1 : (pm_wl base dA adr fo h).set q (base + q, .inl (dA t, n, .inr (.inr (.inr (.inr (va_up (fun i => (f i).map (fun k => base + k)) j.toNatClampNeg (some (base + x)))))))) = pm_wl base dA adr fo (pm_hset h q (.inl (t, n, .inr (.inr (.inr (.inr (va_up f j.toNatClampNeg (some x)))))))) := by
          rw [← pm_wl_set hq]
          show _ = (pm_wl base dA adr fo h).set q (base + q, .inl (dA t, n, .inr (.inr (.inr (.inr (fun i => (va_up f j.toNatClampNeg (some x) i).map (fun k => base + k)))))))
          rw [pm_up_map]
          rfl
        rw [e1] at hP1
        exact pm_store (h' := pm_hset h q (.inl (t, n, .inr (.inr (.inr (.inr (va_up f j.toNatClampNeg (some x)))))))) fx hW hS hc hs hl hn hz rfl rfl hP1 hS1 k
    · cases hst
  · cases hst
theorem pm_t_checkcast {ix : Nat} (fx : pm_Fx p s m args meth c cc nL o ini base D dA adr fo L xs c0) (hd : decode cc pc = .ok (.checkcast ix, len)) (hr : pm_rokB o (pc, .checkcast ix, len, a, b, v) = true) (hst : pm_step X call o ini ret pc ls st h (.checkcast ix) len a b v = some (.inl s')) (k : pm_K p l e R s m args below meth c Q base D dA adr fo nL c0 s0 s') : pm_K p l e R s m args below meth c Q base D dA adr fo nL c0 s0 (pc, ls, st, h) := by
  have hr2 : (len == 3 && pm_alA.any (fun q => q.1 == o && q.2.1 == ix && q.2.2.1 == a)) = true := hr
  rw [Bool.and_eq_true, beq_iff_eq] at hr2
  obtain ⟨rfl, hw⟩ := hr2
  have hwd := pm_al_word hw
  replace hst : (match st with
    | .ref q :: r => (match pm_arr X h (.ref q) with
      | some (t, _, _) => bif t == 0 && a == 0 then pm_go (pc + 3) ls (.ref q :: r) h else none
      | none => none)
    | _ => none) = some (.inl s') := hst
  split at hst
  · next q r =>
    split at hst
    · next t n y hx =>
      cases hg : (t == 0 && a == 0) with
      | false => rw [hg] at hst; cases hst
      | true =>
        rw [hg] at hst
        rw [Bool.and_eq_true, beq_iff_eq, beq_iff_eq] at hg
        obtain ⟨rfl, rfl⟩ := hg
        obtain rfl := pm_go_inv hst
        obtain ⟨hq, hc1⟩ := pm_arr_inv hx
        intro H locs lsA hW hS hl hn hz hc hs
        exact va_castA fx.1 fx.2.1 fx.2.2.2.1 (fx.2.2.2.2.1 _ hwd) hW.P q (pm_at_arr hW hq hc1) (va_nm_int (fx.2.2.2.2.2.2.1.1.2 0 (dA 0, .int) rfl).2) hd (k H locs lsA hW hS hl hn hz hc hs)
    · cases hst
  · cases hst
/-- returns -/
theorem pm_hq {H : Heap} {locs : List Loc} {r : Option Value} {a0 : Array Value} (hW : pm_W base D dA adr fo h H) (hS : va_S (pm_A base) s.heap H locs) : ∀ t : State, t.heap = H → s.WarmedH t.vm → pm_Q base D dA adr fo h r a0 s (.returned (r.map (pm_emb base adr fo))) t := by
  intro t ht _
  refine ⟨rfl, by rw [ht]; exact hW, ?_, fun q h1 h2 => ?_⟩
  · rw [ht]; exact hS.1
  · rw [ht]; exact hS.2.1 q h1 h2
theorem pm_ret_nar {x : Int32} (hx : pm_ret ret x = true) : ∃ ty, ret = some ty ∧ narrow ty (.int x) = .int x := by
  unfold pm_ret at hx
  split at hx
  · exact ⟨_, rfl, rfl⟩
  · rw [Bool.or_eq_true, beq_iff_eq, beq_iff_eq] at hx
    rcases hx with rfl | rfl <;> exact ⟨_, rfl, by decide +kernel⟩
  · exact ⟨_, rfl, of_decide_eq_true hx⟩
  · exact ⟨_, rfl, of_decide_eq_true hx⟩
  · cases hx
theorem pm_t_ret {i : Instr} {hf : pm_H} {r : Option Value} (fx : pm_Fx p s m args meth c cc nL o ini base D dA adr fo L xs c0) (hret : meth.sig.returnType = ret) (hlk : meth.locks = false) (hd : decode cc pc = .ok (i, len)) (hr : pm_rokB o (pc, i, len, a, b, v) = true) (hi : i = .ireturn ∨ i = .lreturn ∨ i = .areturn ∨ i = .return_) (hst : pm_step X call o ini ret pc ls st h i len a b v = some (.inr (hf, r))) : pm_K p l e R s m args below meth c (MQ below (pm_Q base D dA adr fo hf r) args s (hf.1 - c0) (hf.2.1 - s0) (pm_A base)) base D dA adr fo nL c0 s0 (pc, ls, st, h) := by
  rcases hi with rfl | rfl | rfl | rfl
  · obtain rfl := pm_len1 hr rfl
    replace hst : pm_rI ret st h = some (.inr (hf, r)) := hst
    unfold pm_rI at hst
    split at hst
    · next x =>
      cases hx : pm_ret ret x with
      | false => rw [hx] at hst; cases hst
      | true =>
        rw [hx] at hst
        cases hst
        obtain ⟨ty, rfl, hn1⟩ := pm_ret_nar hx
        intro H locs lsA hW hS hl hn hz hc hs
        exact W.zret (v := x) fx.1 fx.2.1 hret hn1 (pm_hq hW hS) hS.2.2 hd hlk
    · cases hst
  · obtain rfl := pm_len1 hr rfl
    replace hst : pm_rL ret st h = some (.inr (hf, r)) := hst
    unfold pm_rL at hst
    split at hst
    · next x =>
      by_cases hx : ret = some .long
      · rw [decide_eq_true hx] at hst
        cases hst
        subst hx
        intro H locs lsA hW hS hl hn hz hc hs
        exact W.lret (v := x) fx.1 fx.2.1 hret (pm_hq hW hS) hS.2.2 hd hlk
      · rw [decide_eq_false hx] at hst; cases hst
    · cases hst
  · obtain rfl := pm_len1 hr rfl
    replace hst : pm_rA ret st h = some (.inr (hf, r)) := hst
    unfold pm_rA at hst
    split at hst
    · next x C =>
      cases hst
      intro H locs lsA hW hS hl hn hz hc hs
      exact W.aret (v := .ref (base + x)) fx.1 fx.2.1 hret (Or.inl ⟨_, rfl⟩) (Or.inr ⟨_, rfl⟩) (pm_hq hW hS) hS.2.2 hd hlk
    · next x C =>
      cases hst
      intro H locs lsA hW hS hl hn hz hc hs
      exact W.aret (v := .ref (base + x)) fx.1 fx.2.1 hret (Or.inr ⟨_, rfl⟩) (Or.inr ⟨_, rfl⟩) (pm_hq hW hS) hS.2.2 hd hlk
    · next C =>
      cases hst
      intro H locs lsA hW hS hl hn hz hc hs
      exact W.aret (v := .null) fx.1 fx.2.1 hret (Or.inl ⟨_, rfl⟩) (Or.inl rfl) (pm_hq hW hS) hS.2.2 hd hlk
    · next C =>
      cases hst
      intro H locs lsA hW hS hl hn hz hc hs
      exact W.aret (v := .null) fx.1 fx.2.1 hret (Or.inr ⟨_, rfl⟩) (Or.inl rfl) (pm_hq hW hS) hS.2.2 hd hlk
    · cases hst
  · obtain rfl := pm_len1 hr rfl
    replace hst : pm_rV ret st h = some (.inr (hf, r)) := hst
    unfold pm_rV at hst
    split at hst
    · cases hst
      intro H locs lsA hW hS hl hn hz hc hs
      exact W.vret fx.1 fx.2.1 hret (pm_hq hW hS) hS.2.2 hd hlk
    · cases hst
end SIM3
