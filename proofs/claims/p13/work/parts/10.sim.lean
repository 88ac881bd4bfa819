/-! THE SIMULATION: what a step of the pure machine does, the machine does -/
/-- the goal at a pure state -/
def pm_K (p : Program) (l : Launch) (e : Env) (R : Room) (s : State) (m : MethodId) (args : Array Value) (below : List Frame) (meth : Method) (c : Code) (Q : State → Prop) (base : Nat) (D : va_G) (dA : Nat → ClassId) (adr : Nat → Nat) (fo : Value) (nL c0 s0 : Nat) (t : pm_S) : Prop :=
  ∀ (H : Heap) (locs : List Loc) (lsA : Array Slot), pm_W base D dA adr fo t.2.2.2 H → va_S (pm_A base) s.heap H locs → pm_L base adr fo lsA t.2.1 → pm_nd t.2.1 → t.2.1.length = nL → c0 ≤ t.2.2.2.1 → s0 ≤ t.2.2.2.2.1 →
    W p l e R s m args below meth c H locs (t.2.2.2.1 - c0) (t.2.2.2.2.1 - s0) Q (F0 m t.1 lsA (t.2.2.1.map (pm_emb base adr fo)))
/-- what holds all through a method -/
def pm_Fx (p : Program) (s : State) (m : MethodId) (args : Array Value) (meth : Method) (c : Code) (cc : ByteArray) (nL o : Nat) (ini : Bool) (base : Nat) (D : va_G) (dA : Nat → ClassId) (adr : Nat → Nat) (fo : Value) (L : Nat) (xs : Nat → Int32) (c0 : Nat) : Prop :=
  p.tables.exec = Jvm.exec ∧ c.code = cc ∧ c.maxLocals = nL ∧ s.vm.findClass (pm_own o) = some m.cls ∧ (∀ w ∈ pm_gw, w.before args s = true) ∧ (ini = true → meth.name = "<init>") ∧ pm_F base D dA adr fo L xs s ∧ s.heap.size = base + c0
def pm_ws (q : pm_M) : List Cond := .code q.1 q.2.1 q.2.2.1 q.2.2.2.1 :: pm_gw
def pm_Q (base : Nat) (D : va_G) (dA : Nat → ClassId) (adr : Nat → Nat) (fo : Value) (h : pm_H) (r : Option Value) : Array Value → State → Outcome → State → Prop := fun _ st oc t => oc = .returned (r.map (pm_emb base adr fo)) ∧ pm_W base D dA adr fo h t.heap ∧ va_F (pm_A base) st t
/-- a method's contract, for one run of the pure machine -/
def pm_Met (l : Launch) (base : Nat) (D : va_G) (dA : Nat → ClassId) (adr : Nat → Nat) (fo : Value) (L : Nat) (xs : Nat → Int32) (d mid : Nat) (as : List Value) (h h' : pm_H) (r : Option Value) : Prop :=
  ∀ q, pm_mtL[mid]? = some q → Met l q.1 (pm_ws q) { frames := d, cells := h'.1 - h.1, slots := h'.2.1 - h.2.1, locals := 64 * d } (va_Pc (as.map (pm_emb base adr fo)) (fun U => pm_F base D dA adr fo L xs U ∧ pm_W base D dA adr fo h U.heap)) (pm_Q base D dA adr fo h' r) (h'.1 - h.1) (h'.2.1 - h.2.1) (pm_A base)
def pm_Call (l : Launch) (base : Nat) (D : va_G) (dA : Nat → ClassId) (adr : Nat → Nat) (fo : Value) (L : Nat) (xs : Nat → Int32) (d : Nat) (call : Nat → List Value → pm_H → Option pm_R) : Prop :=
  ∀ mid as h h' r, call mid as h = some (h', r) → h.1 ≤ h'.1 ∧ h.2.1 ≤ h'.2.1 ∧ pm_Met l base D dA adr fo L xs d mid as h h' r
section SIM
variable {p : Program} {l : Launch} {e : Env} {R : Room} {s : State} {m : MethodId} {args : Array Value} {below : List Frame} {meth : Method} {c : Code} {Q : State → Prop}
variable {base : Nat} {D : va_G} {dA : Nat → ClassId} {adr : Nat → Nat} {fo : Value} {L : Nat} {xs : Nat → Int32} {nL c0 s0 o d : Nat} {ini : Bool} {cc : ByteArray} {X : pm_X} {call : Nat → List Value → pm_H → Option pm_R} {ret : Option FieldType}
variable {pc len a b : Nat} {ls : pm_Ls} {st : List Value} {h : pm_H} {v : Value} {s' : pm_S}
theorem pm_len1 {i : Instr} (h : pm_rokB o (pc, i, len, a, b, v) = true) (h1 : pm_rokB o (pc, i, len, a, b, v) = (len == 1)) : len = 1 := by
  rw [h1] at h
  simpa using h
theorem pm_go_inv {pc' : Nat} {ls' : pm_Ls} {st' : List Value} {h' : pm_H} (hs : pm_go pc' ls' st' h' = some (.inl s')) : s' = (pc', ls', st', h') := (Sum.inl.inj (Option.some.inj hs)).symm
theorem pm_Wsz {H : Heap} {locs : List Loc} {cells slots : Nat} {g : JFrame} (k : H.size ≤ s.heap.size + cells → W p l e R s m args below meth c H locs cells slots Q g) : W p l e R s m args below meth c H locs cells slots Q g := fun T hT Z => k (by rw [← hT]; exact Z.heapSize) T hT Z
theorem pm_obj_inv {w : Value} {x : Nat × Nat × List Value} (hx : pm_obj h w = some x) : w = .ref x.1 ∧ x.1 < h.1 ∧ h.2.2 x.1 = .inr x.2 := by
  cases w with
  | ref q =>
    have hx : (bif decide (q < h.1) then (match h.2.2 q with
      | .inr x => some (q, x)
      | .inl _ => none) else none) = some x := hx
    by_cases hq : q < h.1
    · rw [decide_eq_true hq] at hx
      cases hc : h.2.2 q with
      | inl y => rw [hc] at hx; cases hx
      | inr y => rw [hc] at hx; cases hx; exact ⟨rfl, hq, hc⟩
    · rw [decide_eq_false hq] at hx; cases hx
  | _ => cases hx
theorem pm_arr_inv {q : Nat} {x : Nat × vp_A} (hx : pm_arr X h (.ref q) = some x) : q < h.1 ∧ h.2.2 q = .inl x := by
  have hx : (bif decide (q < h.1) then (match h.2.2 q with
      | .inl x => some x
      | .inr _ => none) else none) = some x := hx
  by_cases hq : q < h.1
  · rw [decide_eq_true hq] at hx
    cases hc : h.2.2 q with
    | inr y => rw [hc] at hx; cases hx
    | inl y => rw [hc] at hx; cases hx; exact ⟨hq, rfl⟩
  · rw [decide_eq_false hq] at hx; cases hx
/-- an array is one of ours, or was there before -/
theorem pm_arr_or {w : Value} {x : Nat × vp_A} (hx : pm_arr X h w = some x) : (∃ q, w = .ref q ∧ q < h.1 ∧ h.2.2 q = .inl x) ∨ ∃ k y, w = .retAddr k ∧ X k = some y ∧ x = (y.1, y.2.1, .inl y.2.2) := by
  cases w with
  | ref q => exact Or.inl ⟨q, rfl, pm_arr_inv hx⟩
  | retAddr k =>
    have hx : (match X k with
    | some x => some (x.1, x.2.1, Sum.inl x.2.2)
    | none => none) = some x := hx
    cases hc : X k with
    | none => rw [hc] at hx; cases hx
    | some y => rw [hc] at hx; cases hx; exact Or.inr ⟨k, y, rfl, hc, rfl⟩
  | _ => cases hx
theorem pm_in_iff {i : Int32} {n : Nat} (hi : pm_in i n = true) : vp_in i n := by
  unfold pm_in at hi
  simp only [Bool.and_eq_true, Bool.not_eq_true', decide_eq_false_iff_not, decide_eq_true_eq] at hi
  rintro (q | q)
  · exact hi.1 q
  · omega
theorem pm_at_arr {H : Heap} {q : Nat} {x : Nat × vp_A} (hW : pm_W base D dA adr fo h H) (hq : q < h.1) (hc : h.2.2 q = .inl x) : (pm_wl base dA adr fo h)[q]? = some (base + q, .inl (dA x.1, pm_embA base x.2)) := by
  rw [pm_wl_get hq, hc]
  rfl
theorem pm_at_obj {H : Heap} {q : Nat} {x : Nat × List Value} (hW : pm_W base D dA adr fo h H) (hq : q < h.1) (hc : h.2.2 q = .inr x) : (pm_wl base dA adr fo h)[q]? = some (base + q, .inr (x.1, x.2.map (pm_emb base adr fo))) := by
  rw [pm_wl_get hq, hc]
  rfl
/-- behind a store: the size is as it was -/
theorem pm_store {h' : pm_H} {H1 : Heap} {locs1 locs : List Loc} {H : Heap} {pc' : Nat} {ls' : pm_Ls} {st' : List Value} {lsA : Array Slot} (fx : pm_Fx p s m args meth c cc nL o ini base D dA adr fo L xs c0) (hW : pm_W base D dA adr fo h H) (hS : va_S (pm_A base) s.heap H locs) (hc : c0 ≤ h.1) (hs : s0 ≤ h.2.1) (hl : pm_L base adr fo lsA ls') (hn : pm_nd ls') (hz : ls'.length = nL)
    (e1 : h'.1 = h.1) (e2 : h'.2.1 = h.2.1) (hP : va_P D pm_cls (pm_wl base dA adr fo h') H1) (hS1 : va_S (pm_A base) H H1 locs1) (k : pm_K p l e R s m args below meth c Q base D dA adr fo nL c0 s0 (pc', ls', st', h')) :
    W p l e R s m args below meth c H1 locs1 (h.1 - c0) (h.2.1 - s0) Q (F0 m pc' lsA (st'.map (pm_emb base adr fo))) := by
  refine pm_Wsz (fun hz1 => ?_)
  have hbc := fx.2.2.2.2.2.2.2
  have hz0 := hW.1
  have hsz : H1.size = base + h'.1 := by
    have := hS1.1
    rw [hbc] at hz1
    omega
  have := k H1 locs1 lsA (pm_W.of hsz hP) ⟨Nat.le_trans hS.1 hS1.1, fun q g1 g2 => (hS1.2.1 q (Nat.lt_of_lt_of_le g1 hS.1) g2).trans (hS.2.1 q g1 g2), hS1.2.2⟩ hl hn hz (by show c0 ≤ h'.1; omega) (by show s0 ≤ h'.2.1; omega)
  have this : W p l e R s m args below meth c H1 locs1 (h'.1 - c0) (h'.2.1 - s0) Q (F0 m pc' lsA (st'.map (pm_emb base adr fo))) := this
  rw [e1, e2] at this
  exact this
theorem pm_S0 {H : Heap} {locs : List Loc} (hS : va_S (pm_A base) s.heap H locs) : va_S (pm_A base) H H locs := ⟨Nat.le_refl _, fun _ _ _ => rfl, hS.2.2⟩
/-- behind a new cell -/
theorem pm_newc {H1 : Heap} {locs1 : List Loc} {H : Heap} {locs : List Loc} {pc' : Nat} {ls' : pm_Ls} {r : List Value} {lsA : Array Slot} {q n : Nat} {x : pm_C} (fx : pm_Fx p s m args meth c cc nL o ini base D dA adr fo L xs c0) (hW : pm_W base D dA adr fo h H) (hS : va_S (pm_A base) s.heap H locs) (hc : c0 ≤ h.1) (hs : s0 ≤ h.2.1) (hl : pm_L base adr fo lsA ls') (hn : pm_nd ls') (hz : ls'.length = nL)
    (hP : va_P D pm_cls (pm_wl base dA adr fo h ++ [(q, pm_embE base dA adr fo x)]) H1) (hD : va_D (pm_A base) (pm_wl base dA adr fo h ++ [(q, pm_embE base dA adr fo x)])) (hS1 : va_S (pm_A base) H H1 locs1) (k : pm_K p l e R s m args below meth c Q base D dA adr fo nL c0 s0 (pc', ls', .ref h.1 :: r, pm_hpush h n x)) :
    W p l e R s m args below meth c H1 locs1 (h.1 - c0 + 1) (h.2.1 - s0 + n) Q (F0 m pc' lsA (.ref q :: r.map (pm_emb base adr fo))) := by
  refine pm_Wsz (fun hz1 => ?_)
  have hbc := fx.2.2.2.2.2.2.2
  have hz0 := hW.1
  have hlen : (pm_wl base dA adr fo h).length = h.1 := by unfold pm_wl; simp
  have hlast : (pm_wl base dA adr fo h ++ [(q, pm_embE base dA adr fo x)])[h.1]? = some (q, pm_embE base dA adr fo x) := by
    rw [List.getElem?_append_right (by omega), hlen, Nat.sub_self]
    rfl
  have hq1 : q < H1.size := (hP h.1 _ hlast).lt
  have hq2 : base ≤ q := hD.2 h.1 _ hlast
  have hq3 : ¬ q < base + h.1 := by
    intro hlt
    have hk : q - base < h.1 := by omega
    have h2 : (pm_wl base dA adr fo h ++ [(q, pm_embE base dA adr fo x)])[q - base]? = some (base + (q - base), pm_embE base dA adr fo (h.2.2 (q - base))) := by
      rw [List.getElem?_append_left (by omega), pm_wl_get hk]
    have := hD.1 _ _ _ _ h2 hlast (by show base + (q - base) = q; omega)
    omega
  rw [hbc] at hz1
  have hqe : q = base + h.1 := by omega
  have hsz : H1.size = base + (h.1 + 1) := by omega
  subst hqe
  rw [pm_wl_push (n := n)] at hP
  have := k H1 locs1 lsA (pm_W.of hsz hP) ⟨Nat.le_trans hS.1 hS1.1, fun q g1 g2 => (hS1.2.1 q (Nat.lt_of_lt_of_le g1 hS.1) g2).trans (hS.2.1 q g1 g2), hS1.2.2⟩ hl hn hz (by show c0 ≤ h.1 + 1; omega) (by show s0 ≤ h.2.1 + n; omega)
  have this : W p l e R s m args below meth c H1 locs1 (h.1 + 1 - c0) (h.2.1 + n - s0) Q (F0 m pc' lsA (.ref (base + h.1) :: r.map (pm_emb base adr fo))) := this
  rw [show h.1 - c0 + 1 = h.1 + 1 - c0 by omega, show h.2.1 - s0 + n = h.2.1 + n - s0 by omega]
  exact this
theorem pm_i2_inv {pc' : Nat} {f : Int32 → Int32 → Int32} (hs : pm_i2 pc' ls st h f = some (.inl s')) : ∃ x y r, st = .int y :: .int x :: r ∧ s' = (pc', ls, .int (f x y) :: r, h) := by
  unfold pm_i2 at hs
  split at hs
  · exact ⟨_, _, _, rfl, pm_go_inv hs⟩
  · cases hs
theorem pm_l2_inv {pc' : Nat} {f : Int64 → Int64 → Int64} (hs : pm_l2 pc' ls st h f = some (.inl s')) : ∃ x y r, st = .long y :: .long x :: r ∧ s' = (pc', ls, .long (f x y) :: r, h) := by
  unfold pm_l2 at hs
  split at hs
  · exact ⟨_, _, _, rfl, pm_go_inv hs⟩
  · cases hs
theorem pm_ldi_inv {pc' k : Nat} (hs : pm_ldi pc' ls st h k = some (.inl s')) : ∃ x, pm_ld ls k = some (.int x) ∧ s' = (pc', ls, .int x :: st, h) := by
  unfold pm_ldi at hs
  split at hs
  · next hx => exact ⟨_, hx, pm_go_inv hs⟩
  · cases hs
theorem pm_ldl_inv {pc' k : Nat} (hs : pm_ldl pc' ls st h k = some (.inl s')) : ∃ x, pm_ld ls k = some (.long x) ∧ s' = (pc', ls, .long x :: st, h) := by
  unfold pm_ldl at hs
  split at hs
  · next hx => exact ⟨_, hx, pm_go_inv hs⟩
  · cases hs
theorem pm_lda_inv {pc' k : Nat} (hs : pm_lda pc' ls st h k = some (.inl s')) : ∃ x, pm_ld ls k = some x ∧ pm_isR x = true ∧ s' = (pc', ls, x :: st, h) := by
  unfold pm_lda at hs
  split at hs
  · next w hx =>
    cases hr : pm_isR w with
    | false => rw [hr] at hs; cases hs
    | true => rw [hr] at hs; exact ⟨_, hx, hr, pm_go_inv hs⟩
  · cases hs
theorem pm_sti_inv {pc' k : Nat} (hs : pm_sti pc' ls st h k = some (.inl s')) : ∃ x r, st = .int x :: r ∧ k < ls.length ∧ s' = (pc', pm_st1 ls k (.int x), r, h) := by
  unfold pm_sti at hs
  split at hs
  · by_cases hk : k < ls.length
    · rw [decide_eq_true hk] at hs; exact ⟨_, _, rfl, hk, pm_go_inv hs⟩
    · rw [decide_eq_false hk] at hs; cases hs
  · cases hs
theorem pm_stl_inv {pc' k : Nat} (hs : pm_stl pc' ls st h k = some (.inl s')) : ∃ x r, st = .long x :: r ∧ k + 1 < ls.length ∧ s' = (pc', pm_st2 ls k (.long x), r, h) := by
  unfold pm_stl at hs
  split at hs
  · by_cases hk : k + 1 < ls.length
    · rw [decide_eq_true hk] at hs; exact ⟨_, _, rfl, hk, pm_go_inv hs⟩
    · rw [decide_eq_false hk] at hs; cases hs
  · cases hs
theorem pm_sta_inv {pc' k : Nat} (hs : pm_sta pc' ls st h k = some (.inl s')) : ∃ x r, st = x :: r ∧ pm_isR x = true ∧ k < ls.length ∧ s' = (pc', pm_st1 ls k x, r, h) := by
  unfold pm_sta at hs
  split at hs
  · next w r =>
    cases hr : pm_isR w with
    | false => rw [hr] at hs; cases hs
    | true =>
      rw [hr] at hs
      by_cases hk : k < ls.length
      · rw [decide_eq_true hk] at hs; exact ⟨_, _, rfl, hr, hk, pm_go_inv hs⟩
      · rw [decide_eq_false hk] at hs; cases hs
  · cases hs
/-- a reference, in the machine -/
theorem pm_isR_emb {x : Value} (hx : pm_isR x = true) (hfo : fo = .null ∨ ∃ q, fo = .ref q) : pm_emb base adr fo x = .null ∨ ∃ q, pm_emb base adr fo x = .ref q := by
  cases x with
  | ref k => exact Or.inr ⟨_, rfl⟩
  | null => exact Or.inl rfl
  | retAddr k =>
    show (bif k == 300 then fo else Value.ref (adr k)) = .null ∨ ∃ q, (bif k == 300 then fo else Value.ref (adr k)) = .ref q
    cases (k == 300) with
    | true => exact hfo
    | false => exact Or.inr ⟨_, rfl⟩
  | _ => cases hx
theorem pm_cat1_emb {x : Value} (hx : pm_cat1 x = true) (hfo : fo = .null ∨ ∃ q, fo = .ref q) : (pm_emb base adr fo x).category = 1 := by
  cases x with
  | int k => rfl
  | ref k => rfl
  | null => rfl
  | retAddr k =>
    show (bif k == 300 then fo else Value.ref (adr k)).category = 1
    cases (k == 300) with
    | true => rcases hfo with rfl | ⟨q, rfl⟩ <;> rfl
    | false => rfl
  | _ => cases hx
theorem pm_isR_nd {x : Value} (hx : pm_isR x = true) : ∀ y, x ≠ .double y := by
  rintro y rfl
  cases hx
theorem pm_t_iadd (fx : pm_Fx p s m args meth c cc nL o ini base D dA adr fo L xs c0) (hd : decode cc pc = .ok (.iadd, len)) (hr : pm_rokB o (pc, .iadd, len, a, b, v) = true) (hst : pm_step X call o ini ret pc ls st h (.iadd) len a b v = some (.inl s')) (k : pm_K p l e R s m args below meth c Q base D dA adr fo nL c0 s0 s') : pm_K p l e R s m args below meth c Q base D dA adr fo nL c0 s0 (pc, ls, st, h) := by
  obtain rfl := pm_len1 hr rfl
  obtain ⟨x, y, r, rfl, rfl⟩ := pm_i2_inv hst
  intro H locs lsA hW hS hl hn hz hc hs
  exact lv_iadd fx.1 fx.2.1 hd (k H locs lsA hW hS hl hn hz hc hs)
theorem pm_t_isub (fx : pm_Fx p s m args meth c cc nL o ini base D dA adr fo L xs c0) (hd : decode cc pc = .ok (.isub, len)) (hr : pm_rokB o (pc, .isub, len, a, b, v) = true) (hst : pm_step X call o ini ret pc ls st h (.isub) len a b v = some (.inl s')) (k : pm_K p l e R s m args below meth c Q base D dA adr fo nL c0 s0 s') : pm_K p l e R s m args below meth c Q base D dA adr fo nL c0 s0 (pc, ls, st, h) := by
  obtain rfl := pm_len1 hr rfl
  obtain ⟨x, y, r, rfl, rfl⟩ := pm_i2_inv hst
  intro H locs lsA hW hS hl hn hz hc hs
  exact lv_isub fx.1 fx.2.1 hd (k H locs lsA hW hS hl hn hz hc hs)
theorem pm_t_imul (fx : pm_Fx p s m args meth c cc nL o ini base D dA adr fo L xs c0) (hd : decode cc pc = .ok (.imul, len)) (hr : pm_rokB o (pc, .imul, len, a, b, v) = true) (hst : pm_step X call o ini ret pc ls st h (.imul) len a b v = some (.inl s')) (k : pm_K p l e R s m args below meth c Q base D dA adr fo nL c0 s0 s') : pm_K p l e R s m args below meth c Q base D dA adr fo nL c0 s0 (pc, ls, st, h) := by
  obtain rfl := pm_len1 hr rfl
  obtain ⟨x, y, r, rfl, rfl⟩ := pm_i2_inv hst
  intro H locs lsA hW hS hl hn hz hc hs
  exact lv_imul fx.1 fx.2.1 hd (k H locs lsA hW hS hl hn hz hc hs)
theorem pm_t_iand (fx : pm_Fx p s m args meth c cc nL o ini base D dA adr fo L xs c0) (hd : decode cc pc = .ok (.iand, len)) (hr : pm_rokB o (pc, .iand, len, a, b, v) = true) (hst : pm_step X call o ini ret pc ls st h (.iand) len a b v = some (.inl s')) (k : pm_K p l e R s m args below meth c Q base D dA adr fo nL c0 s0 s') : pm_K p l e R s m args below meth c Q base D dA adr fo nL c0 s0 (pc, ls, st, h) := by
  obtain rfl := pm_len1 hr rfl
  obtain ⟨x, y, r, rfl, rfl⟩ := pm_i2_inv hst
  intro H locs lsA hW hS hl hn hz hc hs
  exact lv_iand fx.1 fx.2.1 hd (k H locs lsA hW hS hl hn hz hc hs)
theorem pm_t_ior (fx : pm_Fx p s m args meth c cc nL o ini base D dA adr fo L xs c0) (hd : decode cc pc = .ok (.ior, len)) (hr : pm_rokB o (pc, .ior, len, a, b, v) = true) (hst : pm_step X call o ini ret pc ls st h (.ior) len a b v = some (.inl s')) (k : pm_K p l e R s m args below meth c Q base D dA adr fo nL c0 s0 s') : pm_K p l e R s m args below meth c Q base D dA adr fo nL c0 s0 (pc, ls, st, h) := by
  obtain rfl := pm_len1 hr rfl
  obtain ⟨x, y, r, rfl, rfl⟩ := pm_i2_inv hst
  intro H locs lsA hW hS hl hn hz hc hs
  exact lv_ior fx.1 fx.2.1 hd (k H locs lsA hW hS hl hn hz hc hs)
theorem pm_t_ixor (fx : pm_Fx p s m args meth c cc nL o ini base D dA adr fo L xs c0) (hd : decode cc pc = .ok (.ixor, len)) (hr : pm_rokB o (pc, .ixor, len, a, b, v) = true) (hst : pm_step X call o ini ret pc ls st h (.ixor) len a b v = some (.inl s')) (k : pm_K p l e R s m args below meth c Q base D dA adr fo nL c0 s0 s') : pm_K p l e R s m args below meth c Q base D dA adr fo nL c0 s0 (pc, ls, st, h) := by
  obtain rfl := pm_len1 hr rfl
  obtain ⟨x, y, r, rfl, rfl⟩ := pm_i2_inv hst
  intro H locs lsA hW hS hl hn hz hc hs
  exact lv_ixor fx.1 fx.2.1 hd (k H locs lsA hW hS hl hn hz hc hs)
theorem pm_t_ishl (fx : pm_Fx p s m args meth c cc nL o ini base D dA adr fo L xs c0) (hd : decode cc pc = .ok (.ishl, len)) (hr : pm_rokB o (pc, .ishl, len, a, b, v) = true) (hst : pm_step X call o ini ret pc ls st h (.ishl) len a b v = some (.inl s')) (k : pm_K p l e R s m args below meth c Q base D dA adr fo nL c0 s0 s') : pm_K p l e R s m args below meth c Q base D dA adr fo nL c0 s0 (pc, ls, st, h) := by
  obtain rfl := pm_len1 hr rfl
  obtain ⟨x, y, r, rfl, rfl⟩ := pm_i2_inv hst
  intro H locs lsA hW hS hl hn hz hc hs
  exact lv_ishl fx.1 fx.2.1 hd (k H locs lsA hW hS hl hn hz hc hs)
theorem pm_t_ishr (fx : pm_Fx p s m args meth c cc nL o ini base D dA adr fo L xs c0) (hd : decode cc pc = .ok (.ishr, len)) (hr : pm_rokB o (pc, .ishr, len, a, b, v) = true) (hst : pm_step X call o ini ret pc ls st h (.ishr) len a b v = some (.inl s')) (k : pm_K p l e R s m args below meth c Q base D dA adr fo nL c0 s0 s') : pm_K p l e R s m args below meth c Q base D dA adr fo nL c0 s0 (pc, ls, st, h) := by
  obtain rfl := pm_len1 hr rfl
  obtain ⟨x, y, r, rfl, rfl⟩ := pm_i2_inv hst
  intro H locs lsA hW hS hl hn hz hc hs
  exact lv_ishr fx.1 fx.2.1 hd (k H locs lsA hW hS hl hn hz hc hs)
theorem pm_t_iushr (fx : pm_Fx p s m args meth c cc nL o ini base D dA adr fo L xs c0) (hd : decode cc pc = .ok (.iushr, len)) (hr : pm_rokB o (pc, .iushr, len, a, b, v) = true) (hst : pm_step X call o ini ret pc ls st h (.iushr) len a b v = some (.inl s')) (k : pm_K p l e R s m args below meth c Q base D dA adr fo nL c0 s0 s') : pm_K p l e R s m args below meth c Q base D dA adr fo nL c0 s0 (pc, ls, st, h) := by
  obtain rfl := pm_len1 hr rfl
  obtain ⟨x, y, r, rfl, rfl⟩ := pm_i2_inv hst
  intro H locs lsA hW hS hl hn hz hc hs
  exact lv_iushr fx.1 fx.2.1 hd rfl (k H locs lsA hW hS hl hn hz hc hs)
theorem pm_t_ladd (fx : pm_Fx p s m args meth c cc nL o ini base D dA adr fo L xs c0) (hd : decode cc pc = .ok (.ladd, len)) (hr : pm_rokB o (pc, .ladd, len, a, b, v) = true) (hst : pm_step X call o ini ret pc ls st h (.ladd) len a b v = some (.inl s')) (k : pm_K p l e R s m args below meth c Q base D dA adr fo nL c0 s0 s') : pm_K p l e R s m args below meth c Q base D dA adr fo nL c0 s0 (pc, ls, st, h) := by
  obtain rfl := pm_len1 hr rfl
  obtain ⟨x, y, r, rfl, rfl⟩ := pm_l2_inv hst
  intro H locs lsA hW hS hl hn hz hc hs
  exact lv_ladd fx.1 fx.2.1 hd (k H locs lsA hW hS hl hn hz hc hs)
theorem pm_t_lsub (fx : pm_Fx p s m args meth c cc nL o ini base D dA adr fo L xs c0) (hd : decode cc pc = .ok (.lsub, len)) (hr : pm_rokB o (pc, .lsub, len, a, b, v) = true) (hst : pm_step X call o ini ret pc ls st h (.lsub) len a b v = some (.inl s')) (k : pm_K p l e R s m args below meth c Q base D dA adr fo nL c0 s0 s') : pm_K p l e R s m args below meth c Q base D dA adr fo nL c0 s0 (pc, ls, st, h) := by
  obtain rfl := pm_len1 hr rfl
  obtain ⟨x, y, r, rfl, rfl⟩ := pm_l2_inv hst
  intro H locs lsA hW hS hl hn hz hc hs
  exact lv_lsub fx.1 fx.2.1 hd (k H locs lsA hW hS hl hn hz hc hs)
theorem pm_t_lmul (fx : pm_Fx p s m args meth c cc nL o ini base D dA adr fo L xs c0) (hd : decode cc pc = .ok (.lmul, len)) (hr : pm_rokB o (pc, .lmul, len, a, b, v) = true) (hst : pm_step X call o ini ret pc ls st h (.lmul) len a b v = some (.inl s')) (k : pm_K p l e R s m args below meth c Q base D dA adr fo nL c0 s0 s') : pm_K p l e R s m args below meth c Q base D dA adr fo nL c0 s0 (pc, ls, st, h) := by
  obtain rfl := pm_len1 hr rfl
  obtain ⟨x, y, r, rfl, rfl⟩ := pm_l2_inv hst
  intro H locs lsA hW hS hl hn hz hc hs
  exact lv_lmul fx.1 fx.2.1 hd (k H locs lsA hW hS hl hn hz hc hs)
theorem pm_t_idiv (fx : pm_Fx p s m args meth c cc nL o ini base D dA adr fo L xs c0) (hd : decode cc pc = .ok (.idiv, len)) (hr : pm_rokB o (pc, .idiv, len, a, b, v) = true) (hst : pm_step X call o ini ret pc ls st h (.idiv) len a b v = some (.inl s')) (k : pm_K p l e R s m args below meth c Q base D dA adr fo nL c0 s0 s') : pm_K p l e R s m args below meth c Q base D dA adr fo nL c0 s0 (pc, ls, st, h) := by
  obtain rfl := pm_len1 hr rfl
  replace hst : (match st with
    | .int y :: .int x :: r => bif decide (y = 0) then none else pm_go (pc + 1) ls (.int (x / y) :: r) h
    | _ => none) = some (.inl s') := hst
  split at hst
  · next y x r =>
    by_cases hy : y = 0
    · rw [decide_eq_true hy] at hst; cases hst
    · rw [decide_eq_false hy] at hst
      obtain rfl := pm_go_inv hst
      intro H locs lsA hW hS hl hn hz hc hs
      exact lv_idiv fx.1 fx.2.1 hd hy (k H locs lsA hW hS hl hn hz hc hs)
  · cases hst
theorem pm_t_irem (fx : pm_Fx p s m args meth c cc nL o ini base D dA adr fo L xs c0) (hd : decode cc pc = .ok (.irem, len)) (hr : pm_rokB o (pc, .irem, len, a, b, v) = true) (hst : pm_step X call o ini ret pc ls st h (.irem) len a b v = some (.inl s')) (k : pm_K p l e R s m args below meth c Q base D dA adr fo nL c0 s0 s') : pm_K p l e R s m args below meth c Q base D dA adr fo nL c0 s0 (pc, ls, st, h) := by
  obtain rfl := pm_len1 hr rfl
  replace hst : (match st with
    | .int y :: .int x :: r => bif decide (y = 0) then none else pm_go (pc + 1) ls (.int (x - x / y * y) :: r) h
    | _ => none) = some (.inl s') := hst
  split at hst
  · next y x r =>
    by_cases hy : y = 0
    · rw [decide_eq_true hy] at hst; cases hst
    · rw [decide_eq_false hy] at hst
      obtain rfl := pm_go_inv hst
      intro H locs lsA hW hS hl hn hz hc hs
      exact lv_irem fx.1 fx.2.1 hd hy (k H locs lsA hW hS hl hn hz hc hs)
  · cases hst
theorem pm_t_ldiv (fx : pm_Fx p s m args meth c cc nL o ini base D dA adr fo L xs c0) (hd : decode cc pc = .ok (.ldiv, len)) (hr : pm_rokB o (pc, .ldiv, len, a, b, v) = true) (hst : pm_step X call o ini ret pc ls st h (.ldiv) len a b v = some (.inl s')) (k : pm_K p l e R s m args below meth c Q base D dA adr fo nL c0 s0 s') : pm_K p l e R s m args below meth c Q base D dA adr fo nL c0 s0 (pc, ls, st, h) := by
  obtain rfl := pm_len1 hr rfl
  replace hst : (match st with
    | .long y :: .long x :: r => bif decide (y = 0) then none else pm_go (pc + 1) ls (.long (x / y) :: r) h
    | _ => none) = some (.inl s') := hst
  split at hst
  · next y x r =>
    by_cases hy : y = 0
    · rw [decide_eq_true hy] at hst; cases hst
    · rw [decide_eq_false hy] at hst
      obtain rfl := pm_go_inv hst
      intro H locs lsA hW hS hl hn hz hc hs
      exact lv_ldiv fx.1 fx.2.1 hd hy (k H locs lsA hW hS hl hn hz hc hs)
  · cases hst
theorem pm_t_lrem (fx : pm_Fx p s m args meth c cc nL o ini base D dA adr fo L xs c0) (hd : decode cc pc = .ok (.lrem, len)) (hr : pm_rokB o (pc, .lrem, len, a, b, v) = true) (hst : pm_step X call o ini ret pc ls st h (.lrem) len a b v = some (.inl s')) (k : pm_K p l e R s m args below meth c Q base D dA adr fo nL c0 s0 s') : pm_K p l e R s m args below meth c Q base D dA adr fo nL c0 s0 (pc, ls, st, h) := by
  obtain rfl := pm_len1 hr rfl
  replace hst : (match st with
    | .long y :: .long x :: r => bif decide (y = 0) then none else pm_go (pc + 1) ls (.long (x - x / y * y) :: r) h
    | _ => none) = some (.inl s') := hst
  split at hst
  · next y x r =>
    by_cases hy : y = 0
    · rw [decide_eq_true hy] at hst; cases hst
    · rw [decide_eq_false hy] at hst
      obtain rfl := pm_go_inv hst
      intro H locs lsA hW hS hl hn hz hc hs
      exact lv_lrem fx.1 fx.2.1 hd hy (k H locs lsA hW hS hl hn hz hc hs)
  · cases hst
theorem pm_t_ineg (fx : pm_Fx p s m args meth c cc nL o ini base D dA adr fo L xs c0) (hd : decode cc pc = .ok (.ineg, len)) (hr : pm_rokB o (pc, .ineg, len, a, b, v) = true) (hst : pm_step X call o ini ret pc ls st h (.ineg) len a b v = some (.inl s')) (k : pm_K p l e R s m args below meth c Q base D dA adr fo nL c0 s0 s') : pm_K p l e R s m args below meth c Q base D dA adr fo nL c0 s0 (pc, ls, st, h) := by
  obtain rfl := pm_len1 hr rfl
  replace hst : (match st with
    | .int x :: r => pm_go (pc + 1) ls (.int (-x) :: r) h
    | _ => none) = some (.inl s') := hst
  split at hst
  · obtain rfl := pm_go_inv hst
    intro H locs lsA hW hS hl hn hz hc hs
    exact lv_ineg fx.1 fx.2.1 hd (k H locs lsA hW hS hl hn hz hc hs)
  · cases hst
theorem pm_t_lcmp (fx : pm_Fx p s m args meth c cc nL o ini base D dA adr fo L xs c0) (hd : decode cc pc = .ok (.lcmp, len)) (hr : pm_rokB o (pc, .lcmp, len, a, b, v) = true) (hst : pm_step X call o ini ret pc ls st h (.lcmp) len a b v = some (.inl s')) (k : pm_K p l e R s m args below meth c Q base D dA adr fo nL c0 s0 s') : pm_K p l e R s m args below meth c Q base D dA adr fo nL c0 s0 (pc, ls, st, h) := by
  obtain rfl := pm_len1 hr rfl
  replace hst : (match st with
    | .long y :: .long x :: r => pm_go (pc + 1) ls (.int (lg_cmp x y) :: r) h
    | _ => none) = some (.inl s') := hst
  split at hst
  · obtain rfl := pm_go_inv hst
    intro H locs lsA hW hS hl hn hz hc hs
    exact W.lcmp fx.1 fx.2.1 hd (k H locs lsA hW hS hl hn hz hc hs)
  · cases hst
theorem pm_t_i2l (fx : pm_Fx p s m args meth c cc nL o ini base D dA adr fo L xs c0) (hd : decode cc pc = .ok (.i2l, len)) (hr : pm_rokB o (pc, .i2l, len, a, b, v) = true) (hst : pm_step X call o ini ret pc ls st h (.i2l) len a b v = some (.inl s')) (k : pm_K p l e R s m args below meth c Q base D dA adr fo nL c0 s0 s') : pm_K p l e R s m args below meth c Q base D dA adr fo nL c0 s0 (pc, ls, st, h) := by
  obtain rfl := pm_len1 hr rfl
  replace hst : (match st with
    | .int x :: r => pm_go (pc + 1) ls (.long x.toInt64 :: r) h
    | _ => none) = some (.inl s') := hst
  split at hst
  · obtain rfl := pm_go_inv hst
    intro H locs lsA hW hS hl hn hz hc hs
    exact lv_i2l fx.1 fx.2.1 hd rfl (k H locs lsA hW hS hl hn hz hc hs)
  · cases hst
theorem pm_t_l2i (fx : pm_Fx p s m args meth c cc nL o ini base D dA adr fo L xs c0) (hd : decode cc pc = .ok (.l2i, len)) (hr : pm_rokB o (pc, .l2i, len, a, b, v) = true) (hst : pm_step X call o ini ret pc ls st h (.l2i) len a b v = some (.inl s')) (k : pm_K p l e R s m args below meth c Q base D dA adr fo nL c0 s0 s') : pm_K p l e R s m args below meth c Q base D dA adr fo nL c0 s0 (pc, ls, st, h) := by
  obtain rfl := pm_len1 hr rfl
  replace hst : (match st with
    | .long x :: r => pm_go (pc + 1) ls (.int x.toInt32 :: r) h
    | _ => none) = some (.inl s') := hst
  split at hst
  · obtain rfl := pm_go_inv hst
    intro H locs lsA hW hS hl hn hz hc hs
    exact lv_l2i fx.1 fx.2.1 hd rfl (k H locs lsA hW hS hl hn hz hc hs)
  · cases hst
theorem pm_t_i2c (fx : pm_Fx p s m args meth c cc nL o ini base D dA adr fo L xs c0) (hd : decode cc pc = .ok (.i2c, len)) (hr : pm_rokB o (pc, .i2c, len, a, b, v) = true) (hst : pm_step X call o ini ret pc ls st h (.i2c) len a b v = some (.inl s')) (k : pm_K p l e R s m args below meth c Q base D dA adr fo nL c0 s0 s') : pm_K p l e R s m args below meth c Q base D dA adr fo nL c0 s0 (pc, ls, st, h) := by
  obtain rfl := pm_len1 hr rfl
  replace hst : (match st with
    | .int x :: r => pm_go (pc + 1) ls (.int (x.toUInt32 % 65536).toInt32 :: r) h
    | _ => none) = some (.inl s') := hst
  split at hst
  · obtain rfl := pm_go_inv hst
    intro H locs lsA hW hS hl hn hz hc hs
    exact lv_i2c fx.1 fx.2.1 hd rfl (k H locs lsA hW hS hl hn hz hc hs)
  · cases hst
theorem pm_t_pop2 (fx : pm_Fx p s m args meth c cc nL o ini base D dA adr fo L xs c0) (hd : decode cc pc = .ok (.pop2, len)) (hr : pm_rokB o (pc, .pop2, len, a, b, v) = true) (hst : pm_step X call o ini ret pc ls st h (.pop2) len a b v = some (.inl s')) (k : pm_K p l e R s m args below meth c Q base D dA adr fo nL c0 s0 s') : pm_K p l e R s m args below meth c Q base D dA adr fo nL c0 s0 (pc, ls, st, h) := by
  obtain rfl := pm_len1 hr rfl
  replace hst : (match st with
    | .long _ :: r => pm_go (pc + 1) ls (r) h
    | _ => none) = some (.inl s') := hst
  split at hst
  · obtain rfl := pm_go_inv hst
    intro H locs lsA hW hS hl hn hz hc hs
    exact lv_pop2_2 fx.1 fx.2.1 hd rfl (k H locs lsA hW hS hl hn hz hc hs)
  · cases hst
theorem pm_t_aconst_null (fx : pm_Fx p s m args meth c cc nL o ini base D dA adr fo L xs c0) (hd : decode cc pc = .ok (.aconst_null, len)) (hr : pm_rokB o (pc, .aconst_null, len, a, b, v) = true) (hst : pm_step X call o ini ret pc ls st h (.aconst_null) len a b v = some (.inl s')) (k : pm_K p l e R s m args below meth c Q base D dA adr fo nL c0 s0 s') : pm_K p l e R s m args below meth c Q base D dA adr fo nL c0 s0 (pc, ls, st, h) := by
  have hlen : len = 1 := by simpa [pm_rokB, pm_unl, pm_lk] using hr
  subst hlen
  obtain rfl := pm_go_inv hst
  intro H locs lsA hW hS hl hn hz hc hs
  exact lv_null fx.1 fx.2.1 hd (k H locs lsA hW hS hl hn hz hc hs)
theorem pm_t_iconst {n : Int} (fx : pm_Fx p s m args meth c cc nL o ini base D dA adr fo L xs c0) (hd : decode cc pc = .ok (.iconst n, len)) (hr : pm_rokB o (pc, .iconst n, len, a, b, v) = true) (hst : pm_step X call o ini ret pc ls st h (.iconst n) len a b v = some (.inl s')) (k : pm_K p l e R s m args below meth c Q base D dA adr fo nL c0 s0 s') : pm_K p l e R s m args below meth c Q base D dA adr fo nL c0 s0 (pc, ls, st, h) := by
  have hlen : len = 1 := by simpa [pm_rokB, pm_unl, pm_lk] using hr
  subst hlen
  obtain rfl := pm_go_inv hst
  intro H locs lsA hW hS hl hn hz hc hs
  exact lv_iconst fx.1 fx.2.1 hd rfl (k H locs lsA hW hS hl hn hz hc hs)
theorem pm_t_lconst {n : Fin 2} (fx : pm_Fx p s m args meth c cc nL o ini base D dA adr fo L xs c0) (hd : decode cc pc = .ok (.lconst n, len)) (hr : pm_rokB o (pc, .lconst n, len, a, b, v) = true) (hst : pm_step X call o ini ret pc ls st h (.lconst n) len a b v = some (.inl s')) (k : pm_K p l e R s m args below meth c Q base D dA adr fo nL c0 s0 s') : pm_K p l e R s m args below meth c Q base D dA adr fo nL c0 s0 (pc, ls, st, h) := by
  have hlen : len = 1 := by simpa [pm_rokB, pm_unl, pm_lk] using hr
  subst hlen
  obtain rfl := pm_go_inv hst
  intro H locs lsA hW hS hl hn hz hc hs
  exact lv_lconst fx.1 fx.2.1 hd rfl (k H locs lsA hW hS hl hn hz hc hs)
theorem pm_t_bipush {n : Int} (fx : pm_Fx p s m args meth c cc nL o ini base D dA adr fo L xs c0) (hd : decode cc pc = .ok (.bipush n, len)) (hr : pm_rokB o (pc, .bipush n, len, a, b, v) = true) (hst : pm_step X call o ini ret pc ls st h (.bipush n) len a b v = some (.inl s')) (k : pm_K p l e R s m args below meth c Q base D dA adr fo nL c0 s0 s') : pm_K p l e R s m args below meth c Q base D dA adr fo nL c0 s0 (pc, ls, st, h) := by
  have hlen : len = 2 := by simpa [pm_rokB, pm_unl, pm_lk] using hr
  subst hlen
  obtain rfl := pm_go_inv hst
  intro H locs lsA hW hS hl hn hz hc hs
  exact lv_bipush fx.1 fx.2.1 hd rfl (k H locs lsA hW hS hl hn hz hc hs)
theorem pm_t_sipush {n : Int} (fx : pm_Fx p s m args meth c cc nL o ini base D dA adr fo L xs c0) (hd : decode cc pc = .ok (.sipush n, len)) (hr : pm_rokB o (pc, .sipush n, len, a, b, v) = true) (hst : pm_step X call o ini ret pc ls st h (.sipush n) len a b v = some (.inl s')) (k : pm_K p l e R s m args below meth c Q base D dA adr fo nL c0 s0 s') : pm_K p l e R s m args below meth c Q base D dA adr fo nL c0 s0 (pc, ls, st, h) := by
  have hlen : len = 3 := by simpa [pm_rokB, pm_unl, pm_lk] using hr
  subst hlen
  obtain rfl := pm_go_inv hst
  intro H locs lsA hW hS hl hn hz hc hs
  exact lv_sipush fx.1 fx.2.1 hd rfl (k H locs lsA hW hS hl hn hz hc hs)
theorem pm_t_iload {i : Nat} (fx : pm_Fx p s m args meth c cc nL o ini base D dA adr fo L xs c0) (hd : decode cc pc = .ok (.iload i, len)) (hr : pm_rokB o (pc, .iload i, len, a, b, v) = true) (hst : pm_step X call o ini ret pc ls st h (.iload i) len a b v = some (.inl s')) (k : pm_K p l e R s m args below meth c Q base D dA adr fo nL c0 s0 s') : pm_K p l e R s m args below meth c Q base D dA adr fo nL c0 s0 (pc, ls, st, h) := by
  have hlen : len = 2 := by simpa [pm_rokB, pm_unl, pm_lk] using hr
  subst hlen
  obtain ⟨x, hx, rfl⟩ := pm_ldi_inv hst
  intro H locs lsA hW hS hl hn hz hc hs
  exact lv_iload fx.1 fx.2.1 hd (pm_L_get hl hx) (k H locs lsA hW hS hl hn hz hc hs)
theorem pm_t_iload_n {i : Fin 4} (fx : pm_Fx p s m args meth c cc nL o ini base D dA adr fo L xs c0) (hd : decode cc pc = .ok (.iload_n i, len)) (hr : pm_rokB o (pc, .iload_n i, len, a, b, v) = true) (hst : pm_step X call o ini ret pc ls st h (.iload_n i) len a b v = some (.inl s')) (k : pm_K p l e R s m args below meth c Q base D dA adr fo nL c0 s0 s') : pm_K p l e R s m args below meth c Q base D dA adr fo nL c0 s0 (pc, ls, st, h) := by
  have hlen : len = 1 := by simpa [pm_rokB, pm_unl, pm_lk] using hr
  subst hlen
  obtain ⟨x, hx, rfl⟩ := pm_ldi_inv hst
  intro H locs lsA hW hS hl hn hz hc hs
  exact lv_iload_n fx.1 fx.2.1 hd rfl (pm_L_get hl hx) (k H locs lsA hW hS hl hn hz hc hs)
theorem pm_t_lload {i : Nat} (fx : pm_Fx p s m args meth c cc nL o ini base D dA adr fo L xs c0) (hd : decode cc pc = .ok (.lload i, len)) (hr : pm_rokB o (pc, .lload i, len, a, b, v) = true) (hst : pm_step X call o ini ret pc ls st h (.lload i) len a b v = some (.inl s')) (k : pm_K p l e R s m args below meth c Q base D dA adr fo nL c0 s0 s') : pm_K p l e R s m args below meth c Q base D dA adr fo nL c0 s0 (pc, ls, st, h) := by
  have hlen : len = 2 := by simpa [pm_rokB, pm_unl, pm_lk] using hr
  subst hlen
  obtain ⟨x, hx, rfl⟩ := pm_ldl_inv hst
  intro H locs lsA hW hS hl hn hz hc hs
  exact lv_lload fx.1 fx.2.1 hd (pm_L_get hl hx) (k H locs lsA hW hS hl hn hz hc hs)
theorem pm_t_lload_n {i : Fin 4} (fx : pm_Fx p s m args meth c cc nL o ini base D dA adr fo L xs c0) (hd : decode cc pc = .ok (.lload_n i, len)) (hr : pm_rokB o (pc, .lload_n i, len, a, b, v) = true) (hst : pm_step X call o ini ret pc ls st h (.lload_n i) len a b v = some (.inl s')) (k : pm_K p l e R s m args below meth c Q base D dA adr fo nL c0 s0 s') : pm_K p l e R s m args below meth c Q base D dA adr fo nL c0 s0 (pc, ls, st, h) := by
  have hlen : len = 1 := by simpa [pm_rokB, pm_unl, pm_lk] using hr
  subst hlen
  obtain ⟨x, hx, rfl⟩ := pm_ldl_inv hst
  intro H locs lsA hW hS hl hn hz hc hs
  exact lv_lload_n fx.1 fx.2.1 hd rfl (pm_L_get hl hx) (k H locs lsA hW hS hl hn hz hc hs)
theorem pm_t_aload {i : Nat} (fx : pm_Fx p s m args meth c cc nL o ini base D dA adr fo L xs c0) (hd : decode cc pc = .ok (.aload i, len)) (hr : pm_rokB o (pc, .aload i, len, a, b, v) = true) (hst : pm_step X call o ini ret pc ls st h (.aload i) len a b v = some (.inl s')) (k : pm_K p l e R s m args below meth c Q base D dA adr fo nL c0 s0 s') : pm_K p l e R s m args below meth c Q base D dA adr fo nL c0 s0 (pc, ls, st, h) := by
  have hlen : len = 2 := by simpa [pm_rokB, pm_unl, pm_lk] using hr
  subst hlen
  obtain ⟨x, hx, hx2, rfl⟩ := pm_lda_inv hst
  intro H locs lsA hW hS hl hn hz hc hs
  have hg := pm_L_get hl hx
  have kk := (k H locs lsA hW hS hl hn hz hc hs)
  have kk : W p l e R s m args below meth c H locs (h.1 - c0) (h.2.1 - s0) Q (F0 m (pc + 2) lsA (pm_emb base adr fo x :: st.map (pm_emb base adr fo))) := kk
  rcases pm_isR_emb (base := base) (adr := adr) hx2 fx.2.2.2.2.2.2.1.2.2.2.2.2.2.2.2.2.2.1 with g | ⟨q, g⟩
  · rw [g] at hg kk
    exact lv_aloadN fx.1 fx.2.1 hd hg kk
  · rw [g] at hg kk
    exact lv_aload fx.1 fx.2.1 hd hg kk
theorem pm_t_aload_n {i : Fin 4} (fx : pm_Fx p s m args meth c cc nL o ini base D dA adr fo L xs c0) (hd : decode cc pc = .ok (.aload_n i, len)) (hr : pm_rokB o (pc, .aload_n i, len, a, b, v) = true) (hst : pm_step X call o ini ret pc ls st h (.aload_n i) len a b v = some (.inl s')) (k : pm_K p l e R s m args below meth c Q base D dA adr fo nL c0 s0 s') : pm_K p l e R s m args below meth c Q base D dA adr fo nL c0 s0 (pc, ls, st, h) := by
  have hlen : len = 1 := by simpa [pm_rokB, pm_unl, pm_lk] using hr
  subst hlen
  obtain ⟨x, hx, hx2, rfl⟩ := pm_lda_inv hst
  intro H locs lsA hW hS hl hn hz hc hs
  have hg := pm_L_get hl hx
  have kk := (k H locs lsA hW hS hl hn hz hc hs)
  have kk : W p l e R s m args below meth c H locs (h.1 - c0) (h.2.1 - s0) Q (F0 m (pc + 1) lsA (pm_emb base adr fo x :: st.map (pm_emb base adr fo))) := kk
  rcases pm_isR_emb (base := base) (adr := adr) hx2 fx.2.2.2.2.2.2.1.2.2.2.2.2.2.2.2.2.2.1 with g | ⟨q, g⟩
  · rw [g] at hg kk
    exact lv_aload_nN fx.1 fx.2.1 hd rfl hg kk
  · rw [g] at hg kk
    exact lv_aload_n fx.1 fx.2.1 hd rfl hg kk
theorem pm_t_istore {i : Nat} (fx : pm_Fx p s m args meth c cc nL o ini base D dA adr fo L xs c0) (hd : decode cc pc = .ok (.istore i, len)) (hr : pm_rokB o (pc, .istore i, len, a, b, v) = true) (hst : pm_step X call o ini ret pc ls st h (.istore i) len a b v = some (.inl s')) (k : pm_K p l e R s m args below meth c Q base D dA adr fo nL c0 s0 s') : pm_K p l e R s m args below meth c Q base D dA adr fo nL c0 s0 (pc, ls, st, h) := by
  have hlen : len = 2 := by simpa [pm_rokB, pm_unl, pm_lk] using hr
  subst hlen
  obtain ⟨x, r, rfl, hk, rfl⟩ := pm_sti_inv hst
  intro H locs lsA hW hS hl hn hz hc hs
  have hfo := fx.2.2.2.2.2.2.1.2.2.2.2.2.2.2.2.2.2.1
  refine lv_istore fx.1 fx.2.1 hd hl hk rfl (fun l1 g => ?_)
  exact k H locs l1 hW hS (pm_st1_L (lsA := l1) (v := .int x) hfo hn hk g) (pm_nd_st1 hn (fun y q => by cases q)) (by show (pm_st1 ls _ _).length = nL; rw [← hz]; simp [pm_st1, pm_clr_len]) hc hs
theorem pm_t_istore_n {i : Fin 4} (fx : pm_Fx p s m args meth c cc nL o ini base D dA adr fo L xs c0) (hd : decode cc pc = .ok (.istore_n i, len)) (hr : pm_rokB o (pc, .istore_n i, len, a, b, v) = true) (hst : pm_step X call o ini ret pc ls st h (.istore_n i) len a b v = some (.inl s')) (k : pm_K p l e R s m args below meth c Q base D dA adr fo nL c0 s0 s') : pm_K p l e R s m args below meth c Q base D dA adr fo nL c0 s0 (pc, ls, st, h) := by
  have hlen : len = 1 := by simpa [pm_rokB, pm_unl, pm_lk] using hr
  subst hlen
  obtain ⟨x, r, rfl, hk, rfl⟩ := pm_sti_inv hst
  intro H locs lsA hW hS hl hn hz hc hs
  have hfo := fx.2.2.2.2.2.2.1.2.2.2.2.2.2.2.2.2.2.1
  refine lv_istore_n fx.1 fx.2.1 hd rfl hl hk rfl (fun l1 g => ?_)
  exact k H locs l1 hW hS (pm_st1_L (lsA := l1) (v := .int x) hfo hn hk g) (pm_nd_st1 hn (fun y q => by cases q)) (by show (pm_st1 ls _ _).length = nL; rw [← hz]; simp [pm_st1, pm_clr_len]) hc hs
theorem pm_t_lstore {i : Nat} (fx : pm_Fx p s m args meth c cc nL o ini base D dA adr fo L xs c0) (hd : decode cc pc = .ok (.lstore i, len)) (hr : pm_rokB o (pc, .lstore i, len, a, b, v) = true) (hst : pm_step X call o ini ret pc ls st h (.lstore i) len a b v = some (.inl s')) (k : pm_K p l e R s m args below meth c Q base D dA adr fo nL c0 s0 s') : pm_K p l e R s m args below meth c Q base D dA adr fo nL c0 s0 (pc, ls, st, h) := by
  have hlen : len = 2 := by simpa [pm_rokB, pm_unl, pm_lk] using hr
  subst hlen
  obtain ⟨x, r, rfl, hk, rfl⟩ := pm_stl_inv hst
  intro H locs lsA hW hS hl hn hz hc hs
  have hfo := fx.2.2.2.2.2.2.1.2.2.2.2.2.2.2.2.2.2.1
  refine lv_lstore fx.1 fx.2.1 hd hl hk rfl (fun l1 g => ?_)
  exact k H locs l1 hW hS (pm_st2_L (lsA := l1) (v := .long x) hfo hn hk g) (pm_nd_st2 hn (fun y q => by cases q)) (by show (pm_st2 ls _ _).length = nL; rw [← hz]; simp [pm_st2, pm_clr_len]) hc hs
theorem pm_t_lstore_n {i : Fin 4} (fx : pm_Fx p s m args meth c cc nL o ini base D dA adr fo L xs c0) (hd : decode cc pc = .ok (.lstore_n i, len)) (hr : pm_rokB o (pc, .lstore_n i, len, a, b, v) = true) (hst : pm_step X call o ini ret pc ls st h (.lstore_n i) len a b v = some (.inl s')) (k : pm_K p l e R s m args below meth c Q base D dA adr fo nL c0 s0 s') : pm_K p l e R s m args below meth c Q base D dA adr fo nL c0 s0 (pc, ls, st, h) := by
  have hlen : len = 1 := by simpa [pm_rokB, pm_unl, pm_lk] using hr
  subst hlen
  obtain ⟨x, r, rfl, hk, rfl⟩ := pm_stl_inv hst
  intro H locs lsA hW hS hl hn hz hc hs
  have hfo := fx.2.2.2.2.2.2.1.2.2.2.2.2.2.2.2.2.2.1
  refine lv_lstore_n fx.1 fx.2.1 hd rfl hl hk rfl (fun l1 g => ?_)
  exact k H locs l1 hW hS (pm_st2_L (lsA := l1) (v := .long x) hfo hn hk g) (pm_nd_st2 hn (fun y q => by cases q)) (by show (pm_st2 ls _ _).length = nL; rw [← hz]; simp [pm_st2, pm_clr_len]) hc hs
theorem pm_t_astore {i : Nat} (fx : pm_Fx p s m args meth c cc nL o ini base D dA adr fo L xs c0) (hd : decode cc pc = .ok (.astore i, len)) (hr : pm_rokB o (pc, .astore i, len, a, b, v) = true) (hst : pm_step X call o ini ret pc ls st h (.astore i) len a b v = some (.inl s')) (k : pm_K p l e R s m args below meth c Q base D dA adr fo nL c0 s0 s') : pm_K p l e R s m args below meth c Q base D dA adr fo nL c0 s0 (pc, ls, st, h) := by
  have hlen : len = 2 := by simpa [pm_rokB, pm_unl, pm_lk] using hr
  subst hlen
  obtain ⟨x, r, rfl, hx2, hk, rfl⟩ := pm_sta_inv hst
  intro H locs lsA hW hS hl hn hz hc hs
  have hfo := fx.2.2.2.2.2.2.1.2.2.2.2.2.2.2.2.2.2.1
  have fin : ∀ l1 : Array Slot, lv_has l1 ls.length ((_, pm_emb base adr fo x) :: _) → _ := fun l1 g => k H locs l1 hW hS (pm_st1_L (lsA := l1) (v := x) hfo hn hk g) (pm_nd_st1 hn (pm_isR_nd hx2)) (by show (pm_st1 ls _ _).length = nL; rw [← hz]; simp [pm_st1, pm_clr_len]) hc hs
  show W p l e R s m args below meth c H locs (h.1 - c0) (h.2.1 - s0) Q (F0 m pc lsA (pm_emb base adr fo x :: r.map (pm_emb base adr fo)))
  rcases pm_isR_emb (base := base) (adr := adr) hx2 hfo with g | ⟨q, g⟩
  · rw [g] at fin ⊢
    exact lv_astoreN fx.1 fx.2.1 hd hl hk rfl fin
  · rw [g] at fin ⊢
    exact lv_astore fx.1 fx.2.1 hd hl hk rfl fin
theorem pm_t_astore_n {i : Fin 4} (fx : pm_Fx p s m args meth c cc nL o ini base D dA adr fo L xs c0) (hd : decode cc pc = .ok (.astore_n i, len)) (hr : pm_rokB o (pc, .astore_n i, len, a, b, v) = true) (hst : pm_step X call o ini ret pc ls st h (.astore_n i) len a b v = some (.inl s')) (k : pm_K p l e R s m args below meth c Q base D dA adr fo nL c0 s0 s') : pm_K p l e R s m args below meth c Q base D dA adr fo nL c0 s0 (pc, ls, st, h) := by
  have hlen : len = 1 := by simpa [pm_rokB, pm_unl, pm_lk] using hr
  subst hlen
  obtain ⟨x, r, rfl, hx2, hk, rfl⟩ := pm_sta_inv hst
  intro H locs lsA hW hS hl hn hz hc hs
  have hfo := fx.2.2.2.2.2.2.1.2.2.2.2.2.2.2.2.2.2.1
  have fin : ∀ l1 : Array Slot, lv_has l1 ls.length ((_, pm_emb base adr fo x) :: _) → _ := fun l1 g => k H locs l1 hW hS (pm_st1_L (lsA := l1) (v := x) hfo hn hk g) (pm_nd_st1 hn (pm_isR_nd hx2)) (by show (pm_st1 ls _ _).length = nL; rw [← hz]; simp [pm_st1, pm_clr_len]) hc hs
  show W p l e R s m args below meth c H locs (h.1 - c0) (h.2.1 - s0) Q (F0 m pc lsA (pm_emb base adr fo x :: r.map (pm_emb base adr fo)))
  rcases pm_isR_emb (base := base) (adr := adr) hx2 hfo with g | ⟨q, g⟩
  · rw [g] at fin ⊢
    exact lv_astore_nN fx.1 fx.2.1 hd rfl hl hk rfl fin
  · rw [g] at fin ⊢
    exact lv_astore_n fx.1 fx.2.1 hd rfl hl hk rfl fin
theorem pm_t_iinc {i : Nat} {n : Int} (fx : pm_Fx p s m args meth c cc nL o ini base D dA adr fo L xs c0) (hd : decode cc pc = .ok (.iinc i n, len)) (hr : pm_rokB o (pc, .iinc i n, len, a, b, v) = true) (hst : pm_step X call o ini ret pc ls st h (.iinc i n) len a b v = some (.inl s')) (k : pm_K p l e R s m args below meth c Q base D dA adr fo nL c0 s0 s') : pm_K p l e R s m args below meth c Q base D dA adr fo nL c0 s0 (pc, ls, st, h) := by
  have hlen : len = 3 := by simpa [pm_rokB, pm_unl, pm_lk] using hr
  subst hlen
  replace hst : (match pm_ld ls i with
    | some (.int x) => pm_go (pc + 3) (pm_st1 ls i (.int (x + Int32.ofInt n))) st h
    | _ => none) = some (.inl s') := hst
  split at hst
  · next x hx =>
    obtain rfl := pm_go_inv hst
    intro H locs lsA hW hS hl hn hz hc hs
    have hfo := fx.2.2.2.2.2.2.1.2.2.2.2.2.2.2.2.2.2.1
    have hk : i < ls.length := by
      rcases Nat.lt_or_ge i ls.length with q | q
      · exact q
      · unfold pm_ld at hx
        rw [List.getD_eq_getElem?_getD, List.getElem?_eq_none q] at hx
        cases hx
    obtain ⟨kk, hkk⟩ := List.getElem?_of_mem (show (i, Value.int x) ∈ pm_lvl base adr fo ls from pm_lvl_mem.mpr ⟨hk, _, hx, rfl⟩)
    refine lv_iinc fx.1 fx.2.1 hd hl hkk rfl hk rfl (fun l1 g => ?_)
    exact k H locs l1 hW hS (pm_st1_L (lsA := l1) (v := .int (x + Int32.ofInt n)) hfo hn hk g) (pm_nd_st1 hn (fun y q => by cases q)) (by show (pm_st1 ls _ _).length = nL; rw [← hz]; simp [pm_st1, pm_clr_len]) hc hs
  · cases hst
theorem pm_t_pop (fx : pm_Fx p s m args meth c cc nL o ini base D dA adr fo L xs c0) (hd : decode cc pc = .ok (.pop, len)) (hr : pm_rokB o (pc, .pop, len, a, b, v) = true) (hst : pm_step X call o ini ret pc ls st h (.pop) len a b v = some (.inl s')) (k : pm_K p l e R s m args below meth c Q base D dA adr fo nL c0 s0 s') : pm_K p l e R s m args below meth c Q base D dA adr fo nL c0 s0 (pc, ls, st, h) := by
  obtain rfl := pm_len1 hr rfl
  replace hst : (match st with
    | w :: r => bif pm_cat1 w then pm_go (pc + 1) ls r h else none
    | _ => none) = some (.inl s') := hst
  split at hst
  · next w r =>
    cases hw : pm_cat1 w with
    | false => rw [hw] at hst; cases hst
    | true =>
      rw [hw] at hst
      obtain rfl := pm_go_inv hst
      intro H locs lsA hW hS hl hn hz hc hs
      exact lv_pop fx.1 fx.2.1 hd (pm_cat1_emb hw fx.2.2.2.2.2.2.1.2.2.2.2.2.2.2.2.2.2.1) (k H locs lsA hW hS hl hn hz hc hs)
  · cases hst
theorem pm_t_dup (fx : pm_Fx p s m args meth c cc nL o ini base D dA adr fo L xs c0) (hd : decode cc pc = .ok (.dup, len)) (hr : pm_rokB o (pc, .dup, len, a, b, v) = true) (hst : pm_step X call o ini ret pc ls st h (.dup) len a b v = some (.inl s')) (k : pm_K p l e R s m args below meth c Q base D dA adr fo nL c0 s0 s') : pm_K p l e R s m args below meth c Q base D dA adr fo nL c0 s0 (pc, ls, st, h) := by
  obtain rfl := pm_len1 hr rfl
  replace hst : (match st with
    | w :: r => bif pm_cat1 w then pm_go (pc + 1) ls (w :: w :: r) h else none
    | _ => none) = some (.inl s') := hst
  split at hst
  · next w r =>
    cases hw : pm_cat1 w with
    | false => rw [hw] at hst; cases hst
    | true =>
      rw [hw] at hst
      obtain rfl := pm_go_inv hst
      intro H locs lsA hW hS hl hn hz hc hs
      exact lv_dup fx.1 fx.2.1 hd (pm_cat1_emb hw fx.2.2.2.2.2.2.1.2.2.2.2.2.2.2.2.2.2.1) (k H locs lsA hW hS hl hn hz hc hs)
  · cases hst
theorem pm_t_dup2 (fx : pm_Fx p s m args meth c cc nL o ini base D dA adr fo L xs c0) (hd : decode cc pc = .ok (.dup2, len)) (hr : pm_rokB o (pc, .dup2, len, a, b, v) = true) (hst : pm_step X call o ini ret pc ls st h (.dup2) len a b v = some (.inl s')) (k : pm_K p l e R s m args below meth c Q base D dA adr fo nL c0 s0 s') : pm_K p l e R s m args below meth c Q base D dA adr fo nL c0 s0 (pc, ls, st, h) := by
  obtain rfl := pm_len1 hr rfl
  replace hst : (match st with
    | w :: u :: r => bif pm_cat1 w && pm_cat1 u then pm_go (pc + 1) ls (w :: u :: w :: u :: r) h else none
    | _ => none) = some (.inl s') := hst
  split at hst
  · next w u r =>
    cases hw : pm_cat1 w with
    | false => rw [hw] at hst; cases hst
    | true =>
      cases hu : pm_cat1 u with
      | false => rw [hw, hu] at hst; cases hst
      | true =>
        rw [hw, hu] at hst
        obtain rfl := pm_go_inv hst
        intro H locs lsA hW hS hl hn hz hc hs
        exact lv_dup2_11 fx.1 fx.2.1 hd (pm_cat1_emb hw fx.2.2.2.2.2.2.1.2.2.2.2.2.2.2.2.2.2.1) (pm_cat1_emb hu fx.2.2.2.2.2.2.1.2.2.2.2.2.2.2.2.2.2.1) (k H locs lsA hW hS hl hn hz hc hs)
  · cases hst
theorem pm_t_goto {off : Int} (fx : pm_Fx p s m args meth c cc nL o ini base D dA adr fo L xs c0) (hd : decode cc pc = .ok (.goto off, len)) (hr : pm_rokB o (pc, .goto off, len, a, b, v) = true) (hst : pm_step X call o ini ret pc ls st h (.goto off) len a b v = some (.inl s')) (k : pm_K p l e R s m args below meth c Q base D dA adr fo nL c0 s0 s') : pm_K p l e R s m args below meth c Q base D dA adr fo nL c0 s0 (pc, ls, st, h) := by
  have hlen : len = 3 ∧ (pc : Int) + off = (a : Int) := by simpa [pm_rokB, pm_unl, pm_lk] using hr
  obtain ⟨rfl, ht⟩ := hlen
  obtain rfl := pm_go_inv hst
  intro H locs lsA hW hS hl hn hz hc hs
  exact lv_goto fx.1 fx.2.1 hd ht (k H locs lsA hW hS hl hn hz hc hs)
theorem pm_t_ifCond {cd : ClassFile.Cond} {off : Int} (fx : pm_Fx p s m args meth c cc nL o ini base D dA adr fo L xs c0) (hd : decode cc pc = .ok (.ifCond cd off, len)) (hr : pm_rokB o (pc, .ifCond cd off, len, a, b, v) = true) (hst : pm_step X call o ini ret pc ls st h (.ifCond cd off) len a b v = some (.inl s')) (k : pm_K p l e R s m args below meth c Q base D dA adr fo nL c0 s0 s') : pm_K p l e R s m args below meth c Q base D dA adr fo nL c0 s0 (pc, ls, st, h) := by
  have hlen : len = 3 ∧ (pc : Int) + off = (a : Int) := by simpa [pm_rokB, pm_unl, pm_lk] using hr
  obtain ⟨rfl, ht⟩ := hlen
  replace hst : (match st with
    | .int x :: r => bif pm_cmp0 cd x then pm_go a ls r h else pm_go (pc + 3) ls r h
    | _ => none) = some (.inl s') := hst
  split at hst
  · next x r =>
    have kt : pm_cmp0 cd x = true → pm_K p l e R s m args below meth c Q base D dA adr fo nL c0 s0 (a, ls, r, h) := fun g => by
      rw [g] at hst
      obtain rfl := pm_go_inv hst
      exact k
    have kf : pm_cmp0 cd x = false → pm_K p l e R s m args below meth c Q base D dA adr fo nL c0 s0 (pc + 3, ls, r, h) := fun g => by
      rw [g] at hst
      obtain rfl := pm_go_inv hst
      exact k
    intro H locs lsA hW hS hl hn hz hc hs
    cases cd with
    | eq => exact lv_if_eq fx.1 fx.2.1 hd ht (fun g => kt (decide_eq_true g) H locs lsA hW hS hl hn hz hc hs) (fun g => kf (decide_eq_false g) H locs lsA hW hS hl hn hz hc hs)
    | ne => exact lv_if_ne fx.1 fx.2.1 hd ht (fun g => kt (by show (!decide (x = 0)) = true; rw [decide_eq_false g]; rfl) H locs lsA hW hS hl hn hz hc hs) (fun g => kf (by show (!decide (x = 0)) = false; rw [decide_eq_true g]; rfl) H locs lsA hW hS hl hn hz hc hs)
    | lt => exact lv_if_lt fx.1 fx.2.1 hd ht (fun g => kt (decide_eq_true g) H locs lsA hW hS hl hn hz hc hs) (fun g => kf (decide_eq_false g) H locs lsA hW hS hl hn hz hc hs)
    | ge => exact lv_if_ge fx.1 fx.2.1 hd ht (fun g => kt (decide_eq_true g) H locs lsA hW hS hl hn hz hc hs) (fun g => kf (decide_eq_false g) H locs lsA hW hS hl hn hz hc hs)
    | gt => exact lv_if_gt fx.1 fx.2.1 hd ht (fun g => kt (decide_eq_true g) H locs lsA hW hS hl hn hz hc hs) (fun g => kf (decide_eq_false g) H locs lsA hW hS hl hn hz hc hs)
    | le => exact lv_if_le fx.1 fx.2.1 hd ht (fun g => kt (decide_eq_true g) H locs lsA hW hS hl hn hz hc hs) (fun g => kf (decide_eq_false g) H locs lsA hW hS hl hn hz hc hs)
  · cases hst
theorem pm_t_if_icmp {cd : ClassFile.Cond} {off : Int} (fx : pm_Fx p s m args meth c cc nL o ini base D dA adr fo L xs c0) (hd : decode cc pc = .ok (.if_icmp cd off, len)) (hr : pm_rokB o (pc, .if_icmp cd off, len, a, b, v) = true) (hst : pm_step X call o ini ret pc ls st h (.if_icmp cd off) len a b v = some (.inl s')) (k : pm_K p l e R s m args below meth c Q base D dA adr fo nL c0 s0 s') : pm_K p l e R s m args below meth c Q base D dA adr fo nL c0 s0 (pc, ls, st, h) := by
  have hlen : len = 3 ∧ (pc : Int) + off = (a : Int) := by simpa [pm_rokB, pm_unl, pm_lk] using hr
  obtain ⟨rfl, ht⟩ := hlen
  replace hst : (match st with
    | .int y :: .int x :: r => bif pm_cmp cd x y then pm_go a ls r h else pm_go (pc + 3) ls r h
    | _ => none) = some (.inl s') := hst
  split at hst
  · next y x r =>
    have kt : pm_cmp cd x y = true → pm_K p l e R s m args below meth c Q base D dA adr fo nL c0 s0 (a, ls, r, h) := fun g => by
      rw [g] at hst
      obtain rfl := pm_go_inv hst
      exact k
    have kf : pm_cmp cd x y = false → pm_K p l e R s m args below meth c Q base D dA adr fo nL c0 s0 (pc + 3, ls, r, h) := fun g => by
      rw [g] at hst
      obtain rfl := pm_go_inv hst
      exact k
    intro H locs lsA hW hS hl hn hz hc hs
    cases cd with
    | eq => exact lv_icmp_eq fx.1 fx.2.1 hd ht (fun g => kt (decide_eq_true g) H locs lsA hW hS hl hn hz hc hs) (fun g => kf (decide_eq_false g) H locs lsA hW hS hl hn hz hc hs)
    | ne => exact lv_icmp_ne fx.1 fx.2.1 hd ht (fun g => kt (by show (!decide (x = y)) = true; rw [decide_eq_false g]; rfl) H locs lsA hW hS hl hn hz hc hs) (fun g => kf (by show (!decide (x = y)) = false; rw [decide_eq_true g]; rfl) H locs lsA hW hS hl hn hz hc hs)
    | lt => exact lv_icmp_lt fx.1 fx.2.1 hd ht (fun g => kt (decide_eq_true g) H locs lsA hW hS hl hn hz hc hs) (fun g => kf (decide_eq_false g) H locs lsA hW hS hl hn hz hc hs)
    | ge => exact lv_icmp_ge fx.1 fx.2.1 hd ht (fun g => kt (decide_eq_true g) H locs lsA hW hS hl hn hz hc hs) (fun g => kf (decide_eq_false g) H locs lsA hW hS hl hn hz hc hs)
    | gt => exact lv_icmp_gt fx.1 fx.2.1 hd ht (fun g => kt (decide_eq_true g) H locs lsA hW hS hl hn hz hc hs) (fun g => kf (decide_eq_false g) H locs lsA hW hS hl hn hz hc hs)
    | le => exact lv_icmp_le fx.1 fx.2.1 hd ht (fun g => kt (decide_eq_true g) H locs lsA hW hS hl hn hz hc hs) (fun g => kf (decide_eq_false g) H locs lsA hW hS hl hn hz hc hs)
  · cases hst
theorem pm_t_ifnull {off : Int} (fx : pm_Fx p s m args meth c cc nL o ini base D dA adr fo L xs c0) (hd : decode cc pc = .ok (.ifnull off, len)) (hr : pm_rokB o (pc, .ifnull off, len, a, b, v) = true) (hst : pm_step X call o ini ret pc ls st h (.ifnull off) len a b v = some (.inl s')) (k : pm_K p l e R s m args below meth c Q base D dA adr fo nL c0 s0 s') : pm_K p l e R s m args below meth c Q base D dA adr fo nL c0 s0 (pc, ls, st, h) := by
  have hlen : len = 3 ∧ (pc : Int) + off = (a : Int) := by simpa [pm_rokB, pm_unl, pm_lk] using hr
  obtain ⟨rfl, ht⟩ := hlen
  replace hst : (match st with
    | .ref _ :: r => pm_go (pc + 3) ls r h
    | .null :: r => pm_go (a) ls r h
    | _ => none) = some (.inl s') := hst
  split at hst
  · obtain rfl := pm_go_inv hst
    intro H locs lsA hW hS hl hn hz hc hs
    exact lv_ifnull fx.1 fx.2.1 hd (k H locs lsA hW hS hl hn hz hc hs)
  · obtain rfl := pm_go_inv hst
    intro H locs lsA hW hS hl hn hz hc hs
    exact lv_ifnullN fx.1 fx.2.1 hd ht (k H locs lsA hW hS hl hn hz hc hs)
  · cases hst
theorem pm_t_ifnonnull {off : Int} (fx : pm_Fx p s m args meth c cc nL o ini base D dA adr fo L xs c0) (hd : decode cc pc = .ok (.ifnonnull off, len)) (hr : pm_rokB o (pc, .ifnonnull off, len, a, b, v) = true) (hst : pm_step X call o ini ret pc ls st h (.ifnonnull off) len a b v = some (.inl s')) (k : pm_K p l e R s m args below meth c Q base D dA adr fo nL c0 s0 s') : pm_K p l e R s m args below meth c Q base D dA adr fo nL c0 s0 (pc, ls, st, h) := by
  have hlen : len = 3 ∧ (pc : Int) + off = (a : Int) := by simpa [pm_rokB, pm_unl, pm_lk] using hr
  obtain ⟨rfl, ht⟩ := hlen
  replace hst : (match st with
    | .ref _ :: r => pm_go (a) ls r h
    | .null :: r => pm_go (pc + 3) ls r h
    | _ => none) = some (.inl s') := hst
  split at hst
  · obtain rfl := pm_go_inv hst
    intro H locs lsA hW hS hl hn hz hc hs
    exact lv_ifnonnull fx.1 fx.2.1 hd ht (k H locs lsA hW hS hl hn hz hc hs)
  · obtain rfl := pm_go_inv hst
    intro H locs lsA hW hS hl hn hz hc hs
    exact lv_ifnonnullN fx.1 fx.2.1 hd (k H locs lsA hW hS hl hn hz hc hs)
  · cases hst
theorem pm_t_tableswitch {dflt lo hi : Int} {offs : Array Int} (fx : pm_Fx p s m args meth c cc nL o ini base D dA adr fo L xs c0) (hd : decode cc pc = .ok (.tableswitch dflt lo hi offs, len)) (hst : pm_step X call o ini ret pc ls st h (.tableswitch dflt lo hi offs) len a b v = some (.inl s')) (k : pm_K p l e R s m args below meth c Q base D dA adr fo nL c0 s0 s') : pm_K p l e R s m args below meth c Q base D dA adr fo nL c0 s0 (pc, ls, st, h) := by
  replace hst : pm_tsw pc ls st h dflt lo hi offs = some (.inl s') := hst
  unfold pm_tsw at hst
  split at hst
  · next x r =>
    by_cases hx : x.toInt < lo ∨ hi < x.toInt
    · have e : (decide (x.toInt < lo) || decide (hi < x.toInt)) = true := by simpa using hx
      rw [e] at hst
      by_cases hp : 0 ≤ (pc : Int) + dflt
      · rw [decide_eq_true hp] at hst
        obtain rfl := pm_go_inv hst
        intro H locs lsA hW hS hl hn hz hc hs
        exact lv_tableOut fx.1 fx.2.1 hd hx (by omega) (k H locs lsA hW hS hl hn hz hc hs)
      · rw [decide_eq_false hp] at hst; cases hst
    · have e : (decide (x.toInt < lo) || decide (hi < x.toInt)) = false := by simpa using hx
      rw [e] at hst
      replace hst : (match offs.toList[(x.toInt - lo).toNat]? with
        | some off => bif decide (0 ≤ (pc : Int) + off) then pm_go ((pc : Int) + off).toNat ls r h else none
        | none => none) = some (.inl s') := hst
      split at hst
      · next off ho =>
        by_cases hp : 0 ≤ (pc : Int) + off
        · rw [decide_eq_true hp] at hst
          obtain rfl := pm_go_inv hst
          intro H locs lsA hW hS hl hn hz hc hs
          refine lv_tableIn fx.1 fx.2.1 hd (fun q => hx (Or.inl q)) (fun q => hx (Or.inr q)) (off := off) (by rw [← Array.getElem?_toList]; exact ho) (by omega) (k H locs lsA hW hS hl hn hz hc hs)
        · rw [decide_eq_false hp] at hst; cases hst
      · cases hst
  · cases hst
end SIM
