/-! classes and methods as the tables have them -/
def pm_cB (q : vw_C) (w : Nat × Nat × List Nat) : Bool := decide (u_ws q.1 q.2.1 q.2.2 = w.2.2.filterMap (fun i => lw_tbl[i]?)) && (u_ws q.1 q.2.1 q.2.2).all goodWord && decide (lw_tbl[w.1]? = some (.initialized q.1)) && goodWord (.initialized q.1) && decide (lw_tbl[w.2.1]? = some (.instantiable q.1 q.2.2)) && goodWord (.instantiable q.1 q.2.2)
theorem pm_cB_ok : (pm_cls.zip pm_cP).all (fun x => pm_cB x.1 x.2) = true := by decide +kernel
theorem pm_clen : pm_cls.length = 12 ∧ pm_cP.length = 12 := by decide +kernel
theorem pm_zip {α β : Type} {l : List α} {m : List β} {f : α × β → Bool} (h : (l.zip m).all f = true) (hl : l.length ≤ m.length) {k : Nat} {x : α} (hx : l[k]? = some x) : ∃ y, m[k]? = some y ∧ f (x, y) = true := by
  have hk : k < l.length := (List.getElem?_eq_some_iff.mp hx).1
  have hm : k < m.length := Nat.lt_of_lt_of_le hk hl
  refine ⟨m[k], List.getElem?_eq_getElem hm, ?_⟩
  have hz : (l.zip m)[k]? = some (x, m[k]) := by
    rw [List.getElem?_zip_eq_some]
    exact ⟨hx, List.getElem?_eq_getElem hm⟩
  exact List.all_eq_true.mp h _ (List.mem_of_getElem? hz)
theorem pm_cls_ok {ci : Nat} {q : vw_C} (h : pm_cls[ci]? = some q) : (∀ w ∈ u_ws q.1 q.2.1 q.2.2, w ∈ pm_gw) ∧ Cond.initialized q.1 ∈ pm_gw ∧ Cond.instantiable q.1 q.2.2 ∈ pm_gw := by
  obtain ⟨w, hw, hb⟩ := pm_zip pm_cB_ok (by rw [pm_clen.1, pm_clen.2]; exact Nat.le_refl _) h
  simp only [pm_cB, Bool.and_eq_true, decide_eq_true_eq] at hb
  obtain ⟨⟨⟨⟨⟨b1, b2⟩, b3⟩, b4⟩, b5⟩, b6⟩ := hb
  refine ⟨fun x hx => ?_, pm_gw_of b3 b4, pm_gw_of b5 b6⟩
  have hg := List.all_eq_true.mp b2 x hx
  rw [b1] at hx
  obtain ⟨i, -, hi⟩ := List.mem_filterMap.mp hx
  exact pm_gw_of hi hg
theorem pm_cls_lt {ci : Nat} {q : vw_C} (h : pm_cls[ci]? = some q) : ci < 12 := by
  have := (List.getElem?_eq_some_iff.mp h).1
  rw [pm_clen.1] at this
  exact this
theorem pm_cls_ty {ci : Nat} {q : vw_C} (h : pm_cls[ci]? = some q) : ∀ k, k < q.2.2 → parseFieldDescriptor (q.2.1 k).2.2.1 = some (pm_ty ci k) := by
  have hlt := pm_cls_lt h
  match ci, h, hlt with
  | 0, h, _ => cases h; exact tyX0_ok
  | 1, h, _ => cases h; exact tyX1_ok
  | 2, h, _ => cases h; exact tyX2_ok
  | 3, h, _ => cases h; exact tyX3_ok
  | 4, h, _ => cases h; exact tyX4_ok
  | 5, h, _ => cases h; exact tyX5_ok
  | 6, h, _ => cases h; exact tyX6_ok
  | 7, h, _ => cases h; exact tyX7_ok
  | 8, h, _ => cases h; exact tyX8_ok
  | 9, h, _ => cases h; exact tyX9_ok
  | 10, h, _ => cases h; exact tyX10_ok
  | 11, h, _ => cases h; exact tyX11_ok
  | n + 12, _, h => exact absurd h (by omega)
theorem pm_cls_nm {ci : Nat} {q : vw_C} (h : pm_cls[ci]? = some q) : ∀ a, a < q.2.2 → ∀ b, b < q.2.2 → a ≠ b → (q.2.1 a).2.1 ≠ (q.2.1 b).2.1 := by
  have hlt := pm_cls_lt h
  match ci, h, hlt with
  | 0, h, _ => cases h; exact nmX0
  | 1, h, _ => cases h; exact nmX1
  | 2, h, _ => cases h; exact nmX2
  | 3, h, _ => cases h; exact nmX3
  | 4, h, _ => cases h; exact nmX4
  | 5, h, _ => cases h; exact nmX5
  | 6, h, _ => cases h; exact nmX6
  | 7, h, _ => cases h; exact nmX7
  | 8, h, _ => cases h; exact nmX8
  | 9, h, _ => cases h; exact nmX9
  | 10, h, _ => cases h; exact nmX10
  | 11, h, _ => cases h; exact nmX11
  | n + 12, _, h => exact absurd h (by omega)
theorem pm_decl_all : pm_cls.all (fun q => (List.range q.2.2).all (fun k => decide ((q.2.1 k).1 = q.1))) = true := by decide +kernel
theorem pm_cls_decl {ci : Nat} {q : vw_C} (h : pm_cls[ci]? = some q) {k : Nat} (hk : k < q.2.2) : (q.2.1 k).1 = q.1 := by
  have := List.all_eq_true.mp pm_decl_all q (List.mem_of_getElem? h)
  have := List.all_eq_true.mp this k (List.mem_range.mpr hk)
  simpa using this
/-- a method as the tables have it -/
def pm_mOK (q : pm_M) : Prop := plainFor q.1 = true ∧ Cond.code q.1 q.2.1 q.2.2.1 q.2.2.2.1 ∈ pm_gw ∧ Cond.initialized q.1.cls ∈ pm_gw ∧ (q.1.cls ≠ "java/lang/invoke/MethodHandle" ∧ q.1.cls ≠ "java/lang/invoke/VarHandle") ∧ pm_own q.2.2.2.2.1 = q.1.cls ∧
  (∃ d, parseMethodDescriptor q.1.desc = some d ∧ ((d.parameters.length = q.2.2.2.2.2.1 ∧ Cond.static q.1 ∈ pm_gw) ∨ (d.parameters.length + 1 = q.2.2.2.2.2.1 ∧ Cond.instanceMethod q.1 ∈ pm_gw ∧ (q.1.name = "<init>" ∨ Cond.selects q.1.cls q.1 q.1 ∈ pm_gw)))) ∧ q.2.2.1 ≤ 22 ∧
  (∀ e ∈ q.2.2.2.2.2.2, decode q.2.1 e.1 = .ok (e.2.1, e.2.2.1)) ∧ ∀ e ∈ q.2.2.2.2.2.2, pm_rokB q.2.2.2.2.1 e = true
theorem pm_mOK_of {q : pm_M} {w : Nat × Nat × Nat × Nat} (ha : q.2.2.2.2.2.2.all (pm_decB q.2.1) = true) (hb : pm_mB q w = true) (hc : q.2.2.2.2.2.2.all (pm_rokB q.2.2.2.2.1) = true) (hd : Cond.code q.1 q.2.1 q.2.2.1 q.2.2.2.1 ∈ lw_tbl) : pm_mOK q := by
  unfold pm_mB at hb
  rw [Bool.and_eq_true, Bool.and_eq_true, Bool.and_eq_true, Bool.and_eq_true, Bool.and_eq_true, Bool.and_eq_true, Bool.and_eq_true] at hb
  obtain ⟨⟨⟨⟨⟨⟨⟨b1, b2⟩, b3⟩, b4⟩, b5⟩, b6⟩, b7⟩, b8⟩ := hb
  rw [decide_eq_true_eq] at b1 b4 b5 b8
  refine ⟨b3, List.mem_filter.mpr ⟨hd, b7⟩, pm_gw_of b1 b2, b4, b5, ?_, b8, fun e he => ?_, fun e he => List.all_eq_true.mp hc e he⟩
  · cases hp : parseMethodDescriptor q.1.desc with
    | none => rw [hp] at b6; cases b6
    | some d =>
      rw [hp] at b6
      simp only [Bool.or_eq_true, Bool.and_eq_true, decide_eq_true_eq] at b6
      refine ⟨d, rfl, ?_⟩
      rcases b6 with ⟨⟨g1, g2⟩, g3⟩ | ⟨⟨⟨g1, g2⟩, g3⟩, g4⟩
      · exact Or.inl ⟨g1, pm_gw_of g2 g3⟩
      · refine Or.inr ⟨g1, pm_gw_of g2 g3, ?_⟩
        rcases g4 with g4 | ⟨g4, g5⟩
        · exact Or.inl g4
        · exact Or.inr (pm_gw_of g4 g5)
  · have := List.all_eq_true.mp ha e he
    simpa [pm_decB] using this
theorem pm_ke0 : ∀ q ∈ pm_mtL0, pm_mOK q := by
  intro q hq
  obtain ⟨k, hk⟩ := List.getElem?_of_mem hq
  obtain ⟨w, -, hb⟩ := pm_zip pm_kb0 (Nat.le_of_ble_eq_true (by decide +kernel)) hk
  exact pm_mOK_of (pm_ka0 q hq) hb (List.all_eq_true.mp pm_kc0 q hq) (pm_kd0 q hq)
theorem pm_ke1 : ∀ q ∈ pm_mtL1, pm_mOK q := by
  intro q hq
  obtain ⟨k, hk⟩ := List.getElem?_of_mem hq
  obtain ⟨w, -, hb⟩ := pm_zip pm_kb1 (Nat.le_of_ble_eq_true (by decide +kernel)) hk
  exact pm_mOK_of (pm_ka1 q hq) hb (List.all_eq_true.mp pm_kc1 q hq) (pm_kd1 q hq)
theorem pm_ke2 : ∀ q ∈ pm_mtL2, pm_mOK q := by
  intro q hq
  obtain ⟨k, hk⟩ := List.getElem?_of_mem hq
  obtain ⟨w, -, hb⟩ := pm_zip pm_kb2 (Nat.le_of_ble_eq_true (by decide +kernel)) hk
  exact pm_mOK_of (pm_ka2 q hq) hb (List.all_eq_true.mp pm_kc2 q hq) (pm_kd2 q hq)
theorem pm_ke3 : ∀ q ∈ pm_mtL3, pm_mOK q := by
  intro q hq
  obtain ⟨k, hk⟩ := List.getElem?_of_mem hq
  obtain ⟨w, -, hb⟩ := pm_zip pm_kb3 (Nat.le_of_ble_eq_true (by decide +kernel)) hk
  exact pm_mOK_of (pm_ka3 q hq) hb (List.all_eq_true.mp pm_kc3 q hq) (pm_kd3 q hq)
theorem pm_ke4 : ∀ q ∈ pm_mtL4, pm_mOK q := by
  intro q hq
  obtain ⟨k, hk⟩ := List.getElem?_of_mem hq
  obtain ⟨w, -, hb⟩ := pm_zip pm_kb4 (Nat.le_of_ble_eq_true (by decide +kernel)) hk
  exact pm_mOK_of (pm_ka4 q hq) hb (List.all_eq_true.mp pm_kc4 q hq) (pm_kd4 q hq)
theorem pm_ke5 : ∀ q ∈ pm_mtL5, pm_mOK q := by
  intro q hq
  obtain ⟨k, hk⟩ := List.getElem?_of_mem hq
  obtain ⟨w, -, hb⟩ := pm_zip pm_kb5 (Nat.le_of_ble_eq_true (by decide +kernel)) hk
  exact pm_mOK_of (pm_ka5 q hq) hb (List.all_eq_true.mp pm_kc5 q hq) (pm_kd5 q hq)
theorem pm_ke6 : ∀ q ∈ pm_mtL6, pm_mOK q := by
  intro q hq
  obtain ⟨k, hk⟩ := List.getElem?_of_mem hq
  obtain ⟨w, -, hb⟩ := pm_zip pm_kb6 (Nat.le_of_ble_eq_true (by decide +kernel)) hk
  exact pm_mOK_of (pm_ka6 q hq) hb (List.all_eq_true.mp pm_kc6 q hq) (pm_kd6 q hq)
theorem pm_ke7 : ∀ q ∈ pm_mtL7, pm_mOK q := by
  intro q hq
  obtain ⟨k, hk⟩ := List.getElem?_of_mem hq
  obtain ⟨w, -, hb⟩ := pm_zip pm_kb7 (Nat.le_of_ble_eq_true (by decide +kernel)) hk
  exact pm_mOK_of (pm_ka7 q hq) hb (List.all_eq_true.mp pm_kc7 q hq) (pm_kd7 q hq)
theorem pm_ke8 : ∀ q ∈ pm_mtL8, pm_mOK q := by
  intro q hq
  obtain ⟨k, hk⟩ := List.getElem?_of_mem hq
  obtain ⟨w, -, hb⟩ := pm_zip pm_kb8 (Nat.le_of_ble_eq_true (by decide +kernel)) hk
  exact pm_mOK_of (pm_ka8 q hq) hb (List.all_eq_true.mp pm_kc8 q hq) (pm_kd8 q hq)
theorem pm_mOKs : ∀ q ∈ pm_mtL, pm_mOK q := List.forall_mem_append.mpr ⟨pm_ke0, List.forall_mem_append.mpr ⟨pm_ke1, List.forall_mem_append.mpr ⟨pm_ke2, List.forall_mem_append.mpr ⟨pm_ke3, List.forall_mem_append.mpr ⟨pm_ke4, List.forall_mem_append.mpr ⟨pm_ke5, List.forall_mem_append.mpr ⟨pm_ke6, List.forall_mem_append.mpr ⟨pm_ke7, pm_ke8⟩⟩⟩⟩⟩⟩⟩⟩
theorem pm_mt_ok {mid : Nat} {q : pm_M} (h : pm_mtL[mid]? = some q) : pm_mOK q := pm_mOKs q (List.mem_of_getElem? h)
