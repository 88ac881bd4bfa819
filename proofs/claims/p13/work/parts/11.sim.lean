/-! the simulation: constants, fields, arrays, new cells -/
theorem pm_fl_word {o ix a b : Nat} (h : pm_flA.any (fun q => q.1 == o && q.2.1 == ix && q.2.2.1 == a && q.2.2.2.1 == b) = true) : pm_fw o ix a b ∈ pm_gw := by
  obtain ⟨q, hq, hb⟩ := List.any_eq_true.mp h
  simp only [Bool.and_eq_true, beq_iff_eq] at hb
  obtain ⟨⟨⟨e1, e2⟩, e3⟩, e4⟩ := hb
  have := List.all_eq_true.mp pm_flA_ok q hq
  simp only [Bool.and_eq_true, decide_eq_true_eq] at this
  rw [e1, e2, e3, e4] at this
  exact pm_gw_of this.1 this.2
theorem pm_ml_word {o ix a b : Nat} (h : pm_mlA.any (fun q => q.1 == o && q.2.1 == ix && q.2.2.1 == a && q.2.2.2.1 == b) = true) (h3 : a ≠ 3) : pm_mw o ix a b ∈ pm_gw := by
  obtain ⟨q, hq, hb⟩ := List.any_eq_true.mp h
  simp only [Bool.and_eq_true, beq_iff_eq] at hb
  obtain ⟨⟨⟨e1, e2⟩, e3⟩, e4⟩ := hb
  have := List.all_eq_true.mp pm_mlA_ok q hq
  simp only [Bool.and_eq_true, Bool.or_eq_true, decide_eq_true_eq] at this
  rw [e1, e2, e3, e4] at this
  exact pm_gw_of this.1 (this.2.resolve_left h3)
theorem pm_nl_word {o ix a : Nat} (h : pm_nlA.any (fun q => q.1 == o && q.2.1 == ix && q.2.2.1 == a) = true) : Cond.classLink (pm_own o) ix (pm_cnm a) ∈ pm_gw := by
  obtain ⟨q, hq, hb⟩ := List.any_eq_true.mp h
  simp only [Bool.and_eq_true, beq_iff_eq] at hb
  obtain ⟨⟨e1, e2⟩, e3⟩ := hb
  have := List.all_eq_true.mp pm_nlA_ok q hq
  simp only [Bool.and_eq_true, decide_eq_true_eq] at this
  rw [e1, e2, e3] at this
  exact pm_gw_of this.1 this.2
theorem pm_al_word {o ix a : Nat} (h : pm_alA.any (fun q => q.1 == o && q.2.1 == ix && q.2.2.1 == a) = true) : Cond.classLink (pm_own o) ix (pm_anm a) ∈ pm_gw := by
  obtain ⟨q, hq, hb⟩ := List.any_eq_true.mp h
  simp only [Bool.and_eq_true, beq_iff_eq] at hb
  obtain ⟨⟨e1, e2⟩, e3⟩ := hb
  have := List.all_eq_true.mp pm_alA_ok q hq
  simp only [Bool.and_eq_true, decide_eq_true_eq] at this
  rw [e1, e2, e3] at this
  exact pm_gw_of this.1 this.2
def pm_klS (e : Nat × Nat × Nat × Value × Nat) : Bool := match e.2.2.1, e.2.2.2.1 with
  | 0, .int _ => true
  | 1, .long _ => true
  | 2, .retAddr i => decide (e.1 = 3) && decide (i < 23) && decide ((pm_strT.getD i (0, "")).1 = e.2.1)
  | _, _ => false
theorem pm_klS_ok : pm_klA.all pm_klS = true := by decide +kernel
theorem pm_own3 : pm_own 3 = "TrainBearers$Reader" := by decide +kernel
theorem pm_kl_word {o ix a : Nat} {v : Value} (h : pm_klA.any (fun q => q.1 == o && q.2.1 == ix && q.2.2.1 == a && decide (q.2.2.2.1 = v)) = true) :
    (a = 0 → ∃ x, v = .int x ∧ Cond.constant (pm_own o) ix x ∈ pm_gw) ∧ (a = 1 → ∃ x, v = .long x ∧ Cond.constantLong (pm_own o) ix x ∈ pm_gw) ∧ (a = 2 → ∃ i, v = .retAddr i ∧ o = 3 ∧ i < 23 ∧ (pm_strT.getD i (0, "")).1 = ix) := by
  obtain ⟨q, hq, hb⟩ := List.any_eq_true.mp h
  simp only [Bool.and_eq_true, beq_iff_eq, decide_eq_true_eq] at hb
  obtain ⟨⟨⟨e1, e2⟩, e3⟩, e4⟩ := hb
  have hk := List.all_eq_true.mp pm_klA_ok q hq
  have hs := List.all_eq_true.mp pm_klS_ok q hq
  simp only [Bool.and_eq_true, Bool.or_eq_true, decide_eq_true_eq] at hk
  obtain ⟨q1, q2, q3, q4, q5⟩ := q
  dsimp only at e1 e2 e3 e4 hk
  subst e1; subst e2; subst e3; subst e4
  refine ⟨fun g => ?_, fun g => ?_, fun g => ?_⟩
  · subst g
    cases q4 with
    | int x => exact ⟨x, rfl, pm_gw_of hk.1 (hk.2.resolve_left (by decide))⟩
    | _ => cases hs
  · subst g
    cases q4 with
    | long x => exact ⟨x, rfl, pm_gw_of hk.1 (hk.2.resolve_left (by decide))⟩
    | _ => cases hs
  · subst g
    cases q4 with
    | retAddr i =>
      have hs : (decide (q1 = 3) && decide (i < 23) && decide ((pm_strT.getD i (0, "")).1 = q2)) = true := hs
      simp only [Bool.and_eq_true, decide_eq_true_eq] at hs
      exact ⟨i, rfl, hs.1.1, hs.1.2, hs.2⟩
    | _ => cases hs
theorem pm_cn_some {a b : Nat} (h : b < pm_cn a) : ∃ q, pm_cls[a]? = some q ∧ b < q.2.2 := by
  unfold pm_cn at h
  cases hq : pm_cls[a]? with
  | none => rw [hq] at h; exact absurd h (Nat.not_lt_zero _)
  | some q => rw [hq] at h; exact ⟨q, rfl, h⟩
theorem pm_fw_of {o ix a b : Nat} {q : vw_C} (hq : pm_cls[a]? = some q) : pm_fw o ix a b = .fieldLink (pm_own o) ix (q.2.1 b).1 (q.2.1 b).2.1 (q.2.1 b).2.2.1 := by
  unfold pm_fw
  rw [if_neg (by have := pm_cls_lt hq; omega), hq]
theorem pm_ac0 : Cond.arrayClass .int ∈ pm_gw := List.mem_filter.mpr ⟨by decide +kernel, rfl⟩
theorem pm_ac1 : Cond.arrayClass .long ∈ pm_gw := List.mem_filter.mpr ⟨by decide +kernel, rfl⟩
theorem pm_ac2 : Cond.arrayClass .boolean ∈ pm_gw := List.mem_filter.mpr ⟨by decide +kernel, rfl⟩
theorem pm_sX_kind {L k : Nat} {xs : Nat → Int32} {y : Nat × Nat × (Nat → Int32)} (h : pm_sX L xs k = some y) : y.1 = 0 ∨ y.1 = 5 := by
  unfold pm_sX at h
  cases h1 : (k == 200) with
  | true => rw [h1] at h; cases h; exact Or.inl rfl
  | false =>
    rw [h1] at h
    cases h2 : (k == 201) with
    | true => rw [h2] at h; cases h; exact Or.inl rfl
    | false =>
      rw [h2] at h
      cases h3 : (decide (100 ≤ k) && decide (k < 123)) with
      | true => rw [h3] at h; cases h; exact Or.inr rfl
      | false => rw [h3] at h; cases h
theorem pm_sX_not300 {L k : Nat} {xs : Nat → Int32} {y : Nat × Nat × (Nat → Int32)} (h : pm_sX L xs k = some y) : (k == 300) = false := by
  cases h3 : (k == 300) with
  | false => rfl
  | true =>
    have : k = 300 := by simpa using h3
    subst this
    cases h
section SIM2
variable {p : Program} {l : Launch} {e : Env} {R : Room} {s : State} {m : MethodId} {args : Array Value} {below : List Frame} {meth : Method} {c : Code} {Q : State → Prop}
variable {base : Nat} {D : va_G} {dA : Nat → ClassId} {adr : Nat → Nat} {fo : Value} {L : Nat} {xs : Nat → Int32} {nL c0 s0 o d : Nat} {ini : Bool} {cc : ByteArray} {X : pm_X} {call : Nat → List Value → pm_H → Option pm_R} {ret : Option FieldType}
variable {pc len a b : Nat} {ls : pm_Ls} {st : List Value} {h : pm_H} {v : Value} {s' : pm_S}
theorem pm_emb_st {k : Nat} (hk : (k == 300) = false) : pm_emb base adr fo (.retAddr k) = .ref (adr k) := by
  show (bif k == 300 then fo else Value.ref (adr k)) = _
  rw [hk]
  rfl
theorem pm_fit_ok {ty : FieldType} {u : Value} (hu : pm_fit ty u = true) : narrow ty (pm_emb base adr fo u) = pm_emb base adr fo u ∧ fits ty (pm_emb base adr fo u) = true := by
  unfold pm_fit at hu
  split at hu
  · exact ⟨rfl, rfl⟩
  · exact ⟨rfl, rfl⟩
  · next x =>
    rw [Bool.or_eq_true, beq_iff_eq, beq_iff_eq] at hu
    rcases hu with rfl | rfl
    · exact ⟨(by decide +kernel : narrow .boolean (.int 0) = .int 0), (by decide +kernel : fits .boolean (.int 0) = true)⟩
    · exact ⟨(by decide +kernel : narrow .boolean (.int 1) = .int 1), (by decide +kernel : fits .boolean (.int 1) = true)⟩
  · exact ⟨rfl, rfl⟩
  · exact ⟨rfl, rfl⟩
  · exact ⟨rfl, rfl⟩
  · exact ⟨rfl, rfl⟩
  · cases hu
theorem pm_t_ldc {ix : Nat} (fx : pm_Fx p s m args meth c cc nL o ini base D dA adr fo L xs c0) (hd : decode cc pc = .ok (.ldc ix, len)) (hr : pm_rokB o (pc, .ldc ix, len, a, b, v) = true) (hst : pm_step X call o ini ret pc ls st h (.ldc ix) len a b v = some (.inl s')) (k : pm_K p l e R s m args below meth c Q base D dA adr fo nL c0 s0 s') : pm_K p l e R s m args below meth c Q base D dA adr fo nL c0 s0 (pc, ls, st, h) := by
  have hr2 : (len == 2 && pm_klA.any (fun q => q.1 == o && q.2.1 == ix && q.2.2.1 == a && decide (q.2.2.2.1 = v))) = true := hr
  rw [Bool.and_eq_true, beq_iff_eq] at hr2
  obtain ⟨rfl, hw⟩ := hr2
  obtain ⟨w0, -, w2⟩ := pm_kl_word hw
  replace hst : (bif a == 0 || a == 2 then pm_go (pc + 2) ls (v :: st) h else none) = some (.inl s') := hst
  cases ha : (a == 0 || a == 2) with
  | false => rw [ha] at hst; cases hst
  | true =>
    rw [ha] at hst
    obtain rfl := pm_go_inv hst
    rw [Bool.or_eq_true, beq_iff_eq, beq_iff_eq] at ha
    intro H locs lsA hW hS hl hn hz hc hs
    rcases ha with ha | ha
    · obtain ⟨x, rfl, hwd⟩ := w0 ha
      exact lv_ldc fx.1 fx.2.1 fx.2.2.2.1 (fx.2.2.2.2.1 _ hwd) hd (k H locs lsA hW hS hl hn hz hc hs)
    · obtain ⟨i, rfl, rfl, hi, he⟩ := w2 ha
      have hZ := (fx.2.2.2.2.2.2.1.2.2.1 i hi).1
      rw [he] at hZ
      have hown := fx.2.2.2.1
      rw [pm_own3] at hown
      have kk := k H locs lsA hW hS hl hn hz hc hs
      have kk : W p l e R s m args below meth c H locs (h.1 - c0) (h.2.1 - s0) Q (F0 m (pc + 2) lsA (pm_emb base adr fo (.retAddr i) :: st.map (pm_emb base adr fo))) := kk
      have hne : (i == 300) = false := by
        rw [beq_eq_false_iff_ne]
        omega
      rw [pm_emb_st hne] at kk
      exact va_ldcS fx.1 fx.2.1 hown hZ hd kk
theorem pm_t_ldc_w {ix : Nat} (fx : pm_Fx p s m args meth c cc nL o ini base D dA adr fo L xs c0) (hd : decode cc pc = .ok (.ldc_w ix, len)) (hr : pm_rokB o (pc, .ldc_w ix, len, a, b, v) = true) (hst : pm_step X call o ini ret pc ls st h (.ldc_w ix) len a b v = some (.inl s')) (k : pm_K p l e R s m args below meth c Q base D dA adr fo nL c0 s0 s') : pm_K p l e R s m args below meth c Q base D dA adr fo nL c0 s0 (pc, ls, st, h) := by
  have hr2 : (len == 3 && pm_klA.any (fun q => q.1 == o && q.2.1 == ix && q.2.2.1 == a && decide (q.2.2.2.1 = v))) = true := hr
  rw [Bool.and_eq_true, beq_iff_eq] at hr2
  obtain ⟨rfl, hw⟩ := hr2
  obtain ⟨w0, -, -⟩ := pm_kl_word hw
  replace hst : (bif a == 0 then pm_go (pc + 3) ls (v :: st) h else none) = some (.inl s') := hst
  cases ha : (a == 0) with
  | false => rw [ha] at hst; cases hst
  | true =>
    rw [ha] at hst
    obtain rfl := pm_go_inv hst
    obtain ⟨x, rfl, hwd⟩ := w0 (by simpa using ha)
    intro H locs lsA hW hS hl hn hz hc hs
    exact lv_ldcw fx.1 fx.2.1 fx.2.2.2.1 (fx.2.2.2.2.1 _ hwd) hd (k H locs lsA hW hS hl hn hz hc hs)
theorem pm_t_ldc2_w {ix : Nat} (fx : pm_Fx p s m args meth c cc nL o ini base D dA adr fo L xs c0) (hd : decode cc pc = .ok (.ldc2_w ix, len)) (hr : pm_rokB o (pc, .ldc2_w ix, len, a, b, v) = true) (hst : pm_step X call o ini ret pc ls st h (.ldc2_w ix) len a b v = some (.inl s')) (k : pm_K p l e R s m args below meth c Q base D dA adr fo nL c0 s0 s') : pm_K p l e R s m args below meth c Q base D dA adr fo nL c0 s0 (pc, ls, st, h) := by
  have hr2 : (len == 3 && pm_klA.any (fun q => q.1 == o && q.2.1 == ix && q.2.2.1 == a && decide (q.2.2.2.1 = v))) = true := hr
  rw [Bool.and_eq_true, beq_iff_eq] at hr2
  obtain ⟨rfl, hw⟩ := hr2
  obtain ⟨-, w1, -⟩ := pm_kl_word hw
  replace hst : (bif a == 1 then pm_go (pc + 3) ls (v :: st) h else none) = some (.inl s') := hst
  cases ha : (a == 1) with
  | false => rw [ha] at hst; cases hst
  | true =>
    rw [ha] at hst
    obtain rfl := pm_go_inv hst
    obtain ⟨x, rfl, hwd⟩ := w1 (by simpa using ha)
    intro H locs lsA hW hS hl hn hz hc hs
    exact lv_ldc2 fx.1 fx.2.1 fx.2.2.2.1 (fx.2.2.2.2.1 _ hwd) hd (k H locs lsA hW hS hl hn hz hc hs)
theorem pm_t_getstatic {ix : Nat} (fx : pm_Fx p s m args meth c cc nL o ini base D dA adr fo L xs c0) (hd : decode cc pc = .ok (.getstatic ix, len)) (hr : pm_rokB o (pc, .getstatic ix, len, a, b, v) = true) (hst : pm_step X call o ini ret pc ls st h (.getstatic ix) len a b v = some (.inl s')) (k : pm_K p l e R s m args below meth c Q base D dA adr fo nL c0 s0 s') : pm_K p l e R s m args below meth c Q base D dA adr fo nL c0 s0 (pc, ls, st, h) := by
  have hr2 : (len == 3 && pm_slA.any (fun q => q.1 == o && q.2.1 == ix && decide (q.2.2.1 = v))) = true := hr
  rw [Bool.and_eq_true, beq_iff_eq] at hr2
  obtain ⟨rfl, hw⟩ := hr2
  obtain ⟨q, hq, hb⟩ := List.any_eq_true.mp hw
  simp only [Bool.and_eq_true, beq_iff_eq, decide_eq_true_eq] at hb
  obtain ⟨⟨e1, e2⟩, e3⟩ := hb
  have hk := List.all_eq_true.mp pm_slA_ok q hq
  simp only [Bool.and_eq_true, decide_eq_true_eq] at hk
  have hwd := fx.2.2.2.2.1 _ (pm_gw_of hk.1 hk.2)
  obtain rfl := pm_go_inv hst
  obtain ⟨-, -, -, -, -, -, -, z1, z2, z3, -⟩ := fx.2.2.2.2.2.2.1
  intro H locs lsA hW hS hl hn hz hc hs
  have kk := k H locs lsA hW hS hl hn hz hc hs
  have kk : W p l e R s m args below meth c H locs (h.1 - c0) (h.2.1 - s0) Q (F0 m (pc + 3) lsA (pm_emb base adr fo v :: st.map (pm_emb base adr fo))) := kk
  rw [e1, e2] at hwd
  subst e3
  unfold pm_slA at hq
  simp only [List.mem_cons, List.not_mem_nil, or_false] at hq
  rcases hq with rfl | rfl | rfl
  · exact va_gets fx.1 fx.2.1 z1 hS fx.2.2.2.1 hwd (fun _ g => g) hd kk
  · exact va_gets fx.1 fx.2.1 z2 hS fx.2.2.2.1 hwd (fun _ g => g) hd kk
  · exact va_gets fx.1 fx.2.1 z3 hS fx.2.2.2.1 hwd (fun _ g => g) hd kk
theorem pm_t_getfield {ix : Nat} (fx : pm_Fx p s m args meth c cc nL o ini base D dA adr fo L xs c0) (hd : decode cc pc = .ok (.getfield ix, len)) (hr : pm_rokB o (pc, .getfield ix, len, a, b, v) = true) (hst : pm_step X call o ini ret pc ls st h (.getfield ix) len a b v = some (.inl s')) (k : pm_K p l e R s m args below meth c Q base D dA adr fo nL c0 s0 s') : pm_K p l e R s m args below meth c Q base D dA adr fo nL c0 s0 (pc, ls, st, h) := by
  have hr2 : (len == 3 && pm_flA.any (fun q => q.1 == o && q.2.1 == ix && q.2.2.1 == a && q.2.2.2.1 == b)) = true := hr
  rw [Bool.and_eq_true, beq_iff_eq] at hr2
  obtain ⟨rfl, hw⟩ := hr2
  have hwd := pm_fl_word hw
  replace hst : (match st with
    | .retAddr j :: r => bif a == 100 && decide (j < 23) then (bif b == 0 then pm_go (pc + 3) ls (.retAddr (100 + j) :: r) h else pm_go (pc + 3) ls (.int 0 :: r) h) else none
    | w :: r => (match pm_obj h w with
      | some (_, ci, fs) => bif ci == a && decide (b < pm_cn a) then (match fs[b]? with
        | some u => pm_go (pc + 3) ls (u :: r) h
        | none => none) else none
      | none => none)
    | _ => none) = some (.inl s') := hst
  split at hst
  · next j r =>
    cases hj : (a == 100 && decide (j < 23)) with
    | false => rw [hj] at hst; cases hst
    | true =>
      rw [hj] at hst
      rw [Bool.and_eq_true, beq_iff_eq, decide_eq_true_eq] at hj
      obtain ⟨rfl, hj⟩ := hj
      obtain ⟨-, -, f3, f4⟩ := fx.2.2.2.2.2.2.1.2.2.1 j hj
      have n1 : (j == 300) = false := by rw [beq_eq_false_iff_ne]; omega
      have n2 : (100 + j == 300) = false := by rw [beq_eq_false_iff_ne]; omega
      intro H locs lsA hW hS hl hn hz hc hs
      show W p l e R s m args below meth c H locs (h.1 - c0) (h.2.1 - s0) Q (F0 m pc lsA (pm_emb base adr fo (.retAddr j) :: r.map (pm_emb base adr fo)))
      rw [pm_emb_st n1]
      cases hb : (b == 0) with
      | true =>
        rw [hb] at hst
        obtain rfl := pm_go_inv hst
        have hb0 : b = 0 := by simpa using hb
        subst hb0
        have kk := k H locs lsA hW hS hl hn hz hc hs
        have kk : W p l e R s m args below meth c H locs (h.1 - c0) (h.2.1 - s0) Q (F0 m (pc + 3) lsA (pm_emb base adr fo (.retAddr (100 + j)) :: r.map (pm_emb base adr fo))) := kk
        rw [pm_emb_st n2] at kk
        exact vk_getf fx.1 fx.2.1 f4 hS fx.2.2.2.1 (fx.2.2.2.2.1 _ hwd) (fun _ g => g) hd kk
      | false =>
        rw [hb] at hst
        obtain rfl := pm_go_inv hst
        have hb0 : ¬ b = 0 := by simpa using hb
        have hwd2 : Cond.fieldLink (pm_own o) ix "java/lang/String" "coder" "B" ∈ pm_gw := by
          unfold pm_fw at hwd
          rw [if_pos rfl, if_neg hb0] at hwd
          exact hwd
        exact vk_getf fx.1 fx.2.1 f3 hS fx.2.2.2.1 (fx.2.2.2.2.1 _ hwd2) (fun _ g => g) hd (k H locs lsA hW hS hl hn hz hc hs)
  · next w r hne =>
    split at hst
    · next x ci fs hx =>
      obtain ⟨rfl, hxl, hcell⟩ := pm_obj_inv hx
      cases hg : (ci == a && decide (b < pm_cn a)) with
      | false => rw [hg] at hst; cases hst
      | true =>
        rw [hg] at hst
        rw [Bool.and_eq_true, beq_iff_eq, decide_eq_true_eq] at hg
        obtain ⟨rfl, hb⟩ := hg
        obtain ⟨q, hq, hbq⟩ := pm_cn_some hb
        replace hst : (match fs[b]? with
          | some u => pm_go (pc + 3) ls (u :: r) h
          | none => none) = some (.inl s') := hst
        split at hst
        · next u hu =>
          obtain rfl := pm_go_inv hst
          rw [pm_fw_of hq] at hwd
          intro H locs lsA hW hS hl hn hz hc hs
          exact va_get (C := q.1) (T := q.2.1) (N := q.2.2) (ci := ci) fx.1 fx.2.1 fx.2.2.2.2.1 (pm_cls_ok hq).1 fx.2.2.2.1 fx.2.2.2.2.2.2.1.1 hW.P x (pm_at_obj hW hxl hcell) hq b hbq (fx.2.2.2.2.1 _ hwd) (fun _ g => g) (v := pm_emb base adr fo u) (by rw [List.getElem?_map, hu]; rfl) hd (k H locs lsA hW hS hl hn hz hc hs)
        · cases hst
    · cases hst
  · cases hst
theorem pm_t_putfield {ix : Nat} (fx : pm_Fx p s m args meth c cc nL o ini base D dA adr fo L xs c0) (hd : decode cc pc = .ok (.putfield ix, len)) (hr : pm_rokB o (pc, .putfield ix, len, a, b, v) = true) (hst : pm_step X call o ini ret pc ls st h (.putfield ix) len a b v = some (.inl s')) (k : pm_K p l e R s m args below meth c Q base D dA adr fo nL c0 s0 s') : pm_K p l e R s m args below meth c Q base D dA adr fo nL c0 s0 (pc, ls, st, h) := by
  have hr2 : (len == 3 && !decide (a = 100) && pm_flA.any (fun q => q.1 == o && q.2.1 == ix && q.2.2.1 == a && q.2.2.2.1 == b)) = true := hr
  rw [Bool.and_eq_true, Bool.and_eq_true, beq_iff_eq] at hr2
  obtain ⟨⟨rfl, -⟩, hw⟩ := hr2
  have hwd := pm_fl_word hw
  replace hst : (match st with
    | u :: w :: r => (match pm_obj h w with
      | some (x, ci, fs) => bif ci == a && decide (b < pm_cn a) && decide (b < fs.length) && pm_fit (pm_ty a b) u && (!pm_fin a b || (ini && decide (pm_cnm a = pm_own o))) then pm_go (pc + 3) ls r (pm_hset h x (.inr (a, fs.set b u))) else none
      | none => none)
    | _ => none) = some (.inl s') := hst
  split at hst
  · next u w r =>
    split at hst
    · next x ci fs hx =>
      obtain ⟨rfl, hxl, hcell⟩ := pm_obj_inv hx
      cases hg : (ci == a && decide (b < pm_cn a) && decide (b < fs.length) && pm_fit (pm_ty a b) u && (!pm_fin a b || (ini && decide (pm_cnm a = pm_own o)))) with
      | false => rw [hg] at hst; cases hst
      | true =>
        rw [hg] at hst
        rw [Bool.and_eq_true, Bool.and_eq_true, Bool.and_eq_true, Bool.and_eq_true, beq_iff_eq, decide_eq_true_eq, decide_eq_true_eq] at hg
        obtain ⟨⟨⟨⟨rfl, hb⟩, hbl⟩, hf⟩, hfin⟩ := hg
        obtain ⟨q, hq, hbq⟩ := pm_cn_some hb
        obtain rfl := pm_go_inv hst
        rw [pm_fw_of hq] at hwd
        obtain ⟨hn1, hf1⟩ := pm_fit_ok (base := base) (adr := adr) (fo := fo) hf
        have hfe : pm_fin ci b = (q.2.1 b).2.2.2 := by unfold pm_fin; rw [hq]
        have hce : pm_cnm ci = q.1 := by unfold pm_cnm; rw [hq]
        intro H locs lsA hW hS hl hn hz hc hs
        have fin : ∀ (H1 : Heap) (locs1 : List Loc), va_P D pm_cls ((pm_wl base dA adr fo h).set x (base + x, .inr (ci, (fs.map (pm_emb base adr fo)).set b (pm_emb base adr fo u)))) H1 → va_D (pm_A base) ((pm_wl base dA adr fo h).set x (base + x, .inr (ci, (fs.map (pm_emb base adr fo)).set b (pm_emb base adr fo u)))) → va_S (pm_A base) H H1 locs1 → W p l e R s m args below meth c H1 locs1 (h.1 - c0) (h.2.1 - s0) Q (F0 m (pc + 3) lsA (r.map (pm_emb base adr fo))) := by
          intro H1 locs1 hP1 _ hS1
          have e1 : (pm_wl base dA adr fo h).set x (base + x, .inr (ci, (fs.map (pm_emb base adr fo)).set b (pm_emb base adr fo u))) = pm_wl base dA adr fo (pm_hset h x (.inr (ci, fs.set b u))) := by
            rw [← pm_wl_set hxl, ← List.map_set]
            rfl
          rw [e1] at hP1
          exact pm_store (h' := pm_hset h x (.inr (ci, fs.set b u))) fx hW hS hc hs hl hn hz rfl rfl hP1 hS1 k
        cases hfb : (q.2.1 b).2.2.2 with
        | false => exact va_put (C := q.1) (T := q.2.1) (N := q.2.2) (ci := ci) fx.1 fx.2.1 fx.2.2.2.2.1 (pm_cls_ok hq).1 (pm_ty ci) (pm_cls_ty hq) (pm_cls_nm hq) fx.2.2.2.1 fx.2.2.2.2.2.2.1.1 hW.P pm_wl_D (pm_S0 hS) x (pm_at_obj hW hxl hcell) hq b hbq (fx.2.2.2.2.1 _ hwd) (fun _ g => g) hfb (pm_cls_ty hq b hbq) hn1 hf1 (by rw [List.length_map]; exact hbl) hd fin
        | true =>
          rw [hfe, hfb] at hfin
          have hfin : (ini && decide (pm_cnm ci = pm_own o)) = true := by simpa using hfin
          rw [Bool.and_eq_true, decide_eq_true_eq, hce] at hfin
          exact va_putF (C := q.1) (T := q.2.1) (N := q.2.2) (ci := ci) fx.1 fx.2.1 fx.2.2.2.2.1 (pm_cls_ok hq).1 (pm_ty ci) (pm_cls_ty hq) (pm_cls_nm hq) fx.2.2.2.1 fx.2.2.2.2.2.2.1.1 hW.P pm_wl_D (pm_S0 hS) x (pm_at_obj hW hxl hcell) hq b hbq (fx.2.2.2.2.1 _ hwd) (fun _ g => g) hfb (fx.2.2.2.2.2.1 hfin.1) ((pm_cls_decl hq hbq).trans hfin.2) (pm_cls_ty hq b hbq) hn1 hf1 (by rw [List.length_map]; exact hbl) hd fin
    · cases hst
  · cases hst
end SIM2
