/-! the pure machine's values and heap in the machine's -/
def pm_emb (base : Nat) (adr : Nat → Nat) (fo : Value) : Value → Value
  | .ref k => .ref (base + k)
  | .retAddr k => bif k == 300 then fo else .ref (adr k)
  | v => v
def pm_embA (base : Nat) : vp_A → vp_A
  | (n, .inr (.inr (.inr (.inr f)))) => (n, .inr (.inr (.inr (.inr (fun j => (f j).map (fun k => base + k))))))
  | x => x
def pm_embE (base : Nat) (dA : Nat → ClassId) (adr : Nat → Nat) (fo : Value) : pm_C → va_E
  | .inl x => .inl (dA x.1, pm_embA base x.2)
  | .inr x => .inr (x.1, x.2.map (pm_emb base adr fo))
def pm_tys (dA : Nat → ClassId) : List (ClassId × FieldType) := [(dA 0, .int), (dA 1, .long), (dA 2, .boolean), (dA 3, .object "TrainBearers$Text"), (dA 4, .object "TrainBearers$Train")]
def pm_sty (t : Nat) : FieldType := if t = 0 then .int else .byte
def pm_A (base : Nat) : Nat → Prop := fun q => base ≤ q
def pm_nest : List (Nat × Nat × Nat) := pm_mlA.filterMap (fun e => if e.2.2.1 = 3 then some (e.1, e.2.1, e.2.2.2.1) else none)
/-- what stays true of the tables and of what was there before -/
def pm_F (base : Nat) (D : va_G) (dA : Nat → ClassId) (adr : Nat → Nat) (fo : Value) (L : Nat) (xs : Nat → Int32) (U : State) : Prop :=
  va_K D pm_cls (pm_tys dA) U ∧
  (∀ k t n f, pm_sX L xs k = some (t, n, f) → va_T (pm_sty t) (adr k) n (fun j => .int (f j)) (pm_A base) U U.heap) ∧
  (∀ i, i < 23 → vk_R "TrainBearers$Reader" (pm_strT.getD i (0, "")).1 (pm_strT.getD i (0, "")).2 (adr i) U ∧ va_O "java/lang/String" (adr i) (pm_A base) U U.heap ∧ va_OF "java/lang/String" "coder" "B" (.int 0) (adr i) (pm_A base) U U.heap ∧ va_OF "java/lang/String" "value" "[B" (.ref (adr (100 + i))) (adr i) (pm_A base) U U.heap) ∧
  va_AO "TrainBearers$Text" U ∧ va_AO "TrainBearers$Train" U ∧ (∀ q ∈ pm_nest, va_Nw (.methodLinkNest (pm_own q.1) q.2.1 (pm_y q.2.2) "TrainBearers") U) ∧ va_Nw (.castable "[I" "java/lang/Cloneable") U ∧
  va_Z "TrainBearers" "MOST_TERM" "[I" (.ref (adr 201)) (pm_A base) U U.heap ∧ va_Z "java/lang/String" "COMPACT_STRINGS" "Z" (.int 1) (pm_A base) U U.heap ∧ va_Z "jdk/internal/util/Preconditions" "SIOOBE_FORMATTER" "Ljava/util/function/BiFunction;" fo (pm_A base) U U.heap ∧
  (fo = .null ∨ ∃ q, fo = .ref q) ∧ base ≤ U.heap.size
def pm_W (base : Nat) (D : va_G) (dA : Nat → ClassId) (adr : Nat → Nat) (fo : Value) (h : pm_H) (H : Heap) : Prop :=
  H.size = base + h.1 ∧ ∀ k, k < h.1 → va_at D pm_cls (base + k, pm_embE base dA adr fo (h.2.2 k)) H
def pm_lvl (base : Nat) (adr : Nat → Nat) (fo : Value) (ls : pm_Ls) : List (Nat × Value) := (List.range ls.length).filterMap (fun k => (ls.getD k none).map (fun v => (k, pm_emb base adr fo v)))
def pm_L (base : Nat) (adr : Nat → Nat) (fo : Value) (lsA : Array Slot) (ls : pm_Ls) : Prop := lv_has lsA ls.length (pm_lvl base adr fo ls)
section PW
variable {base : Nat} {D : va_G} {dA : Nat → ClassId} {adr : Nat → Nat} {fo : Value} {L : Nat} {xs : Nat → Int32}
theorem pm_lvl_mem {ls : pm_Ls} {q : Nat × Value} : q ∈ pm_lvl base adr fo ls ↔ q.1 < ls.length ∧ ∃ v, ls.getD q.1 none = some v ∧ q.2 = pm_emb base adr fo v := by
  unfold pm_lvl
  rw [List.mem_filterMap]
  constructor
  · rintro ⟨k, hk, h⟩
    rw [List.mem_range] at hk
    cases hg : ls.getD k none with
    | none => rw [hg] at h; cases h
    | some v =>
      rw [hg] at h
      cases h
      exact ⟨hk, v, hg, rfl⟩
  · rintro ⟨hk, v, hg, he⟩
    refine ⟨q.1, List.mem_range.mpr hk, ?_⟩
    rw [hg]
    show some (q.1, pm_emb base adr fo v) = some q
    rw [← he]
theorem pm_has_mono {lsA : Array Slot} {n : Nat} {l l' : List (Nat × Value)} (h : lv_has lsA n l) (hm : ∀ q ∈ l', q ∈ l) : lv_has lsA n l' := ⟨h.1, h.2.1, fun q hq => h.2.2 q (hm q hq)⟩
theorem pm_L_get {lsA : Array Slot} {ls : pm_Ls} {k : Nat} {v : Value} (h : pm_L base adr fo lsA ls) (hk : pm_ld ls k = some v) : lsA[k]? = some (.val (pm_emb base adr fo v)) := by
  have hlt : k < ls.length := by
    rcases Nat.lt_or_ge k ls.length with q | q
    · exact q
    · unfold pm_ld at hk
      rw [List.getD_eq_getElem?_getD, List.getElem?_eq_none q] at hk
      cases hk
  exact h.2.2 (k, pm_emb base adr fo v) (pm_lvl_mem.mpr ⟨hlt, v, hk, rfl⟩)
theorem pm_getD_set {ls : pm_Ls} {j k : Nat} {x : Option Value} (hk : k < ls.length) : (ls.set k x).getD j none = if j = k then x else ls.getD j none := by
  rw [List.getD_eq_getElem?_getD, List.getD_eq_getElem?_getD, List.getElem?_set]
  by_cases h : k = j
  · subst h
    simp [hk]
  · rw [if_neg h, if_neg (Ne.symm h)]
theorem pm_emb_cat {v : Value} (hv : v.category = 2) : (pm_emb base adr fo v).category = 2 := by
  cases v <;> first | exact hv | (simp [Value.category] at hv)
theorem pm_clr_succ (ls : pm_Ls) (j : Nat) : pm_clr ls (j + 1) = bif pm_two (ls.getD j none) then ls.set j none else ls := rfl
theorem pm_clr_len (ls : pm_Ls) (k : Nat) : (pm_clr ls k).length = ls.length := by
  cases k with
  | zero => rfl
  | succ j =>
    rw [pm_clr_succ]
    cases pm_two (ls.getD j none) <;> simp
theorem pm_emb_two {v : Value} (h : (pm_emb base adr fo v).category = 2) (hfo : fo = .null ∨ ∃ q, fo = .ref q) : (∃ x, v = .long x) ∨ ∃ x, v = .double x := by
  cases v with
  | long x => exact Or.inl ⟨x, rfl⟩
  | double x => exact Or.inr ⟨x, rfl⟩
  | retAddr k =>
    exfalso
    have h : (bif k == 300 then fo else Value.ref (adr k)).category = 2 := h
    cases hk : (k == 300) with
    | true =>
      rw [hk] at h
      rcases hfo with h1 | ⟨q, h1⟩ <;> rw [h1] at h <;> simp [Value.category] at h
    | false => rw [hk] at h; simp [Value.category] at h
  | _ => simp [pm_emb, Value.category] at h
theorem pm_clr_get {ls : pm_Ls} {k j : Nat} {v : Value} (h : (pm_clr ls k).getD j none = some v) (hj : j < ls.length) : ls.getD j none = some v ∧ ¬ (j + 1 = k ∧ ∃ x, v = .long x) := by
  cases k with
  | zero => exact ⟨h, fun q => by omega⟩
  | succ i =>
    rw [pm_clr_succ] at h
    cases hb : pm_two (ls.getD i none) with
    | false =>
      rw [hb] at h
      have h' : ls.getD j none = some v := h
      refine ⟨h', ?_⟩
      rintro ⟨e, x, rfl⟩
      have : j = i := by omega
      subst this
      rw [h'] at hb
      cases hb
    | true =>
      rw [hb] at h
      have h' : (ls.set i none).getD j none = some v := h
      by_cases hi : i < ls.length
      · rw [pm_getD_set hi] at h'
        by_cases e : j = i
        · rw [if_pos e] at h'; cases h'
        · rw [if_neg e] at h'
          exact ⟨h', fun q => e (by omega)⟩
      · rw [List.set_eq_of_length_le (by omega)] at h'
        exact ⟨h', fun q => by omega⟩
/-- no double is ever in the pure locals -/
def pm_nd (ls : pm_Ls) : Prop := ∀ k x, ls.getD k none ≠ some (.double x)
theorem pm_st1_L {lsA : Array Slot} {ls : pm_Ls} {k : Nat} {v : Value} {l' : Array Slot} (hfo : fo = .null ∨ ∃ q, fo = .ref q) (hnd : pm_nd ls) (hk : k < ls.length) (h : lv_has l' ls.length ((k, pm_emb base adr fo v) :: (pm_lvl base adr fo ls).filter (fun q => !(q.1 == k) && !(q.1 + 1 == k && q.2.category == 2)))) : pm_L base adr fo l' (pm_st1 ls k v) := by
  unfold pm_L
  have hlen : (pm_st1 ls k v).length = ls.length := by unfold pm_st1; rw [List.length_set, pm_clr_len]
  rw [hlen]
  refine pm_has_mono h (fun q hq => ?_)
  obtain ⟨h1, w, h2, h3⟩ := pm_lvl_mem.mp hq
  rw [hlen] at h1
  unfold pm_st1 at h2
  rw [pm_getD_set (by rw [pm_clr_len]; exact hk)] at h2
  by_cases e : q.1 = k
  · rw [if_pos e] at h2
    cases h2
    have : q = (k, pm_emb base adr fo v) := Prod.ext e h3
    rw [this]
    exact List.mem_cons_self
  · rw [if_neg e] at h2
    obtain ⟨g1, g2⟩ := pm_clr_get h2 h1
    refine List.mem_cons_of_mem _ (List.mem_filter.mpr ⟨pm_lvl_mem.mpr ⟨h1, w, g1, h3⟩, ?_⟩)
    have e1 : (q.1 == k) = false := by simpa using e
    rw [e1]
    cases hc : (q.1 + 1 == k && q.2.category == 2) with
    | false => rfl
    | true =>
      exfalso
      rw [Bool.and_eq_true] at hc
      have c1 : q.1 + 1 = k := by simpa using hc.1
      have c2 : q.2.category = 2 := by simpa using hc.2
      rw [h3] at c2
      rcases pm_emb_two c2 hfo with ⟨x, hx⟩ | ⟨x, hx⟩
      · exact g2 ⟨c1, x, hx⟩
      · exact hnd q.1 x (by rw [g1, hx])
theorem pm_st2_L {lsA : Array Slot} {ls : pm_Ls} {k : Nat} {v : Value} {l' : Array Slot} (hfo : fo = .null ∨ ∃ q, fo = .ref q) (hnd : pm_nd ls) (hk : k + 1 < ls.length) (h : lv_has l' ls.length ((k, pm_emb base adr fo v) :: (pm_lvl base adr fo ls).filter (fun q => !(q.1 == k) && (!(q.1 == k + 1) && !(q.1 + 1 == k && q.2.category == 2))))) : pm_L base adr fo l' (pm_st2 ls k v) := by
  unfold pm_L
  have hlen : (pm_st2 ls k v).length = ls.length := by unfold pm_st2; rw [List.length_set, List.length_set, pm_clr_len]
  rw [hlen]
  refine pm_has_mono h (fun q hq => ?_)
  obtain ⟨h1, w, h2, h3⟩ := pm_lvl_mem.mp hq
  rw [hlen] at h1
  unfold pm_st2 at h2
  rw [pm_getD_set (by rw [List.length_set, pm_clr_len]; exact hk)] at h2
  by_cases e0 : q.1 = k + 1
  · rw [if_pos e0] at h2; cases h2
  · rw [if_neg e0, pm_getD_set (by rw [pm_clr_len]; omega)] at h2
    by_cases e : q.1 = k
    · rw [if_pos e] at h2
      cases h2
      have : q = (k, pm_emb base adr fo v) := Prod.ext e h3
      rw [this]
      exact List.mem_cons_self
    · rw [if_neg e] at h2
      obtain ⟨g1, g2⟩ := pm_clr_get h2 h1
      refine List.mem_cons_of_mem _ (List.mem_filter.mpr ⟨pm_lvl_mem.mpr ⟨h1, w, g1, h3⟩, ?_⟩)
      have e1 : (q.1 == k) = false := by simpa using e
      have e2 : (q.1 == k + 1) = false := by simpa using e0
      rw [e1, e2]
      cases hc : (q.1 + 1 == k && q.2.category == 2) with
      | false => rfl
      | true =>
        exfalso
        rw [Bool.and_eq_true] at hc
        have c1 : q.1 + 1 = k := by simpa using hc.1
        have c2 : q.2.category = 2 := by simpa using hc.2
        rw [h3] at c2
        rcases pm_emb_two c2 hfo with ⟨x, hx⟩ | ⟨x, hx⟩
        · exact g2 ⟨c1, x, hx⟩
        · exact hnd q.1 x (by rw [g1, hx])
theorem pm_nd_set {ls : pm_Ls} (h : pm_nd ls) {k : Nat} {v : Option Value} (hv : ∀ x, v ≠ some (.double x)) : pm_nd (ls.set k v) := by
  intro j x
  by_cases hk : k < ls.length
  · rw [pm_getD_set hk]
    by_cases e : j = k
    · rw [if_pos e]; exact hv x
    · rw [if_neg e]; exact h j x
  · rw [List.set_eq_of_length_le (by omega)]; exact h j x
theorem pm_nd_clr {ls : pm_Ls} (h : pm_nd ls) (k : Nat) : pm_nd (pm_clr ls k) := by
  cases k with
  | zero => exact h
  | succ j =>
    rw [pm_clr_succ]
    cases pm_two (ls.getD j none) with
    | false => exact h
    | true => exact pm_nd_set h (fun x => by simp)
theorem pm_nd_st1 {ls : pm_Ls} (h : pm_nd ls) {k : Nat} {v : Value} (hv : ∀ x, v ≠ .double x) : pm_nd (pm_st1 ls k v) := pm_nd_set (pm_nd_clr h k) (fun x q => hv x (Option.some.inj q))
theorem pm_nd_st2 {ls : pm_Ls} (h : pm_nd ls) {k : Nat} {v : Value} (hv : ∀ x, v ≠ .double x) : pm_nd (pm_st2 ls k v) := pm_nd_set (pm_nd_set (pm_nd_clr h k) (fun x q => hv x (Option.some.inj q))) (fun x => by simp)
/-- the heap -/
theorem pm_W.get {h : pm_H} {H : Heap} (hW : pm_W base D dA adr fo h H) {k : Nat} (hk : k < h.1) : va_at D pm_cls (base + k, pm_embE base dA adr fo (h.2.2 k)) H := hW.2 k hk
theorem pm_W.set {h : pm_H} {H H' : Heap} (hW : pm_W base D dA adr fo h H) {a : Nat} {c : pm_C} (hz : H'.size = H.size) (ho : ∀ q : Nat, q ≠ base + a → H'[q]? = H[q]?) (hc : va_at D pm_cls (base + a, pm_embE base dA adr fo c) H') : pm_W base D dA adr fo (pm_hset h a c) H' := by
  refine ⟨hz.trans hW.1, fun k hk => ?_⟩
  show va_at D pm_cls (base + k, pm_embE base dA adr fo (va_up h.2.2 a c k)) H'
  by_cases e : k = a
  · subst e
    rw [va_up_self]
    exact hc
  · rw [va_up_ne _ _ e]
    exact (hW.2 k hk).kept (ho _ (by show base + k ≠ base + a; omega))
theorem pm_W.push {h : pm_H} {H H' : Heap} (hW : pm_W base D dA adr fo h H) {n : Nat} {c : pm_C} (hz : H'.size = H.size + 1) (ho : ∀ q : Nat, q < H.size → H'[q]? = H[q]?) (hc : va_at D pm_cls (base + h.1, pm_embE base dA adr fo c) H') : pm_W base D dA adr fo (pm_hpush h n c) H' := by
  refine ⟨by rw [hz, hW.1]; rfl, fun k hk => ?_⟩
  have hk' : k < h.1 + 1 := hk
  show va_at D pm_cls (base + k, pm_embE base dA adr fo (va_up h.2.2 h.1 c k)) H'
  by_cases e : k = h.1
  · subst e
    rw [va_up_self]
    exact hc
  · rw [va_up_ne _ _ e]
    exact (hW.2 k (by omega)).kept (ho _ (by show base + k < _; rw [hW.1]; omega))
def pm_wl (base : Nat) (dA : Nat → ClassId) (adr : Nat → Nat) (fo : Value) (h : pm_H) : va_W := (List.range h.1).map (fun k => (base + k, pm_embE base dA adr fo (h.2.2 k)))
theorem pm_wl_get {h : pm_H} {k : Nat} (hk : k < h.1) : (pm_wl base dA adr fo h)[k]? = some (base + k, pm_embE base dA adr fo (h.2.2 k)) := by
  unfold pm_wl
  rw [List.getElem?_map, List.getElem?_range hk]
  rfl
theorem pm_wl_inv {h : pm_H} {k : Nat} {q : Nat × va_E} (hq : (pm_wl base dA adr fo h)[k]? = some q) : k < h.1 ∧ q = (base + k, pm_embE base dA adr fo (h.2.2 k)) := by
  have hk : k < h.1 := by
    have := (List.getElem?_eq_some_iff.mp hq).1
    unfold pm_wl at this
    simpa using this
  rw [pm_wl_get hk] at hq
  exact ⟨hk, (Option.some.inj hq).symm⟩
theorem pm_W.P {h : pm_H} {H : Heap} (hW : pm_W base D dA adr fo h H) : va_P D pm_cls (pm_wl base dA adr fo h) H := by
  intro k q hq
  obtain ⟨hk, rfl⟩ := pm_wl_inv hq
  exact hW.2 k hk
theorem pm_W.of {h : pm_H} {H : Heap} (hz : H.size = base + h.1) (hP : va_P D pm_cls (pm_wl base dA adr fo h) H) : pm_W base D dA adr fo h H := ⟨hz, fun k hk => hP k _ (pm_wl_get hk)⟩
theorem pm_wl_D {h : pm_H} : va_D (pm_A base) (pm_wl base dA adr fo h) := by
  refine ⟨fun i j x y hi hj e => ?_, fun k q hq => ?_⟩
  · obtain ⟨-, rfl⟩ := pm_wl_inv hi
    obtain ⟨-, rfl⟩ := pm_wl_inv hj
    have e : base + i = base + j := e
    omega
  · obtain ⟨-, rfl⟩ := pm_wl_inv hq
    show base ≤ base + k
    omega
theorem pm_wl_set {h : pm_H} {a : Nat} {c : pm_C} (ha : a < h.1) : (pm_wl base dA adr fo h).set a (base + a, pm_embE base dA adr fo c) = pm_wl base dA adr fo (pm_hset h a c) := by
  apply List.ext_getElem?
  intro k
  have hlen : (pm_wl base dA adr fo h).length = h.1 := by unfold pm_wl; simp
  by_cases hk : k < h.1
  · have h2 : k < (pm_hset h a c).1 := hk
    rw [pm_wl_get h2]
    show _ = some (base + k, pm_embE base dA adr fo (va_up h.2.2 a c k))
    by_cases e : k = a
    · subst e
      rw [List.getElem?_set_self (by rw [hlen]; exact ha), va_up_self]
    · rw [List.getElem?_set_ne (Ne.symm e), pm_wl_get hk, va_up_ne _ _ e]
  · rw [List.getElem?_eq_none (by rw [List.length_set, hlen]; omega), List.getElem?_eq_none]
    unfold pm_wl
    simp only [List.length_map, List.length_range]
    exact Nat.le_of_not_lt hk
theorem pm_wl_push {h : pm_H} {n : Nat} {c : pm_C} : pm_wl base dA adr fo h ++ [(base + h.1, pm_embE base dA adr fo c)] = pm_wl base dA adr fo (pm_hpush h n c) := by
  unfold pm_wl pm_hpush
  show _ = (List.range (h.1 + 1)).map _
  rw [List.range_succ, List.map_append]
  congr 1
  · apply List.map_congr_left
    intro k hk
    rw [List.mem_range] at hk
    show _ = (base + k, pm_embE base dA adr fo (va_up h.2.2 h.1 c k))
    rw [va_up_ne _ _ (by omega)]
  · show _ = [(base + h.1, pm_embE base dA adr fo (va_up h.2.2 h.1 c h.1))]
    rw [va_up_self]
theorem pm_F.moved {s U : State} (hF : pm_F base D dA adr fo L xs s) (hW : s.WarmedH U.vm) (hz : s.heap.size ≤ U.heap.size) (hq : ∀ a : Nat, a < s.heap.size → ¬ pm_A base a → U.heap[a]? = s.heap[a]?) : pm_F base D dA adr fo L xs U := by
  obtain ⟨f1, f2, f3, f4, f5, f6, f7, f8, f9, f10, f11, f12⟩ := hF
  refine ⟨va_K.moved hW.alike f1, fun k t n f h => (va_T.moved hW.alike (f2 k t n f h)).kept hq, fun i hi => ?_, va_AO.moved hW.alike f4, va_AO.moved hW.alike f5, fun q h => va_Nw.warmM hW (f6 q h), va_Nw.warmC hW f7, (va_Z.moved hW.alike f8).kept hq, (va_Z.moved hW.alike f9).kept hq, (va_Z.moved hW.alike f10).kept hq, f11, Nat.le_trans f12 hz⟩
  obtain ⟨g1, g2, g3, g4⟩ := f3 i hi
  exact ⟨vk_R.warm hW g1, (va_O.moved hW.alike g2).kept hq, (va_OF.moved hW.alike g3).kept hq, (va_OF.moved hW.alike g4).kept hq⟩
theorem pm_F.calling {U : State} {g : JFrame} {mk : MethodId} {a : Array Value} (hF : pm_F base D dA adr fo L xs U) : pm_F base D dA adr fo L xs (U.calling g mk a) := by
  obtain ⟨f1, f2, f3, f4, f5, f6, f7, f8, f9, f10, f11, f12⟩ := hF
  have al : U.vm.Alike (U.calling g mk a).vm := Vm.Alike.refl U.vm
  refine ⟨va_K.moved al f1, fun k t n f h => va_T.moved al (f2 k t n f h), fun i hi => ?_, va_AO.moved al f4, va_AO.moved al f5, fun q h => va_Nw.same rfl rfl (f6 q h), va_Nw.same rfl rfl f7, va_Z.moved al f8, va_Z.moved al f9, va_Z.moved al f10, f11, f12⟩
  obtain ⟨g1, g2, g3, g4⟩ := f3 i hi
  exact ⟨vk_R.same rfl g1, va_O.moved al g2, va_OF.moved al g3, va_OF.moved al g4⟩
end PW
