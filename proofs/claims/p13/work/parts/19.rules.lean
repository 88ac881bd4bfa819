/-! RULES over the shape: what a writer keeps, what the projections say behind it, and the instructions in these words. -/
section RUL
theorem hs_oth {h : pm_H} {a b : Nat} {c : pm_C} (hb : b ≠ a) : (pm_hset h a c).2.2 b = h.2.2 b := va_up_ne _ _ hb
theorem hs_same {h : pm_H} {a : Nat} {c : pm_C} : (pm_hset h a c).2.2 a = c := va_up_self _ _ _
theorem hs_keep {h : pm_H} (S : hs_Shape h) {a : Nat} {c : pm_C} (hc : hs_ok (hs_sh a) c) : hs_Shape (pm_hset h a c) := by
  refine ⟨S.1, fun b hb => ?_⟩
  by_cases e : b = a
  · subst e
    rw [hs_same]
    exact hc
  · rw [hs_oth e]
    exact S.2 b hb
theorem hs_cell_o {h : pm_H} (S : hs_Shape h) {a ci : Nat} {fs : List (Nat × Nat)} (hs : hs_sh a = (10 + ci, 0, fs)) (ha : a < 129) : h.2.2 a = .inr (ci, hs_vs h a) := by
  have k := (hs_obj S hs ha).1
  unfold pm_obj at k
  dsimp only at k
  rw [decide_eq_true (show a < h.1 by have := S.1; omega)] at k
  cases hc : h.2.2 a with
  | inl x => rw [hc] at k; cases k
  | inr x =>
    rw [hc] at k
    dsimp only [cond] at k
    have k := congrArg (fun q : Option (Nat × Nat × List Value) => q.getD (0, 0, [])) k
    have k2 : x = (ci, hs_vs h a) := congrArg (fun q : Nat × Nat × List Value => q.2) k
    rw [k2]
theorem hs_sF_S {h : pm_H} (S : hs_Shape h) {a ci k : Nat} {fs : List (Nat × Nat)} {f : Nat × Nat} {v : Value} (hs : hs_sh a = (10 + ci, 0, fs)) (ha : a < 129) (hf : fs[k]? = some f) (hv : hs_fd f v) : hs_Shape (hs_sF h a ci k v) := by
  refine hs_keep S ?_
  rw [hs]
  obtain ⟨-, k2, k3⟩ := hs_obj S hs ha
  refine ⟨rfl, ?_, fun j g w hg hw => ?_⟩
  · rw [List.length_set]; exact k2
  · by_cases e : k = j
    · subst e
      have hk : k < (hs_vs h a).length := by rw [k2]; exact (List.getElem?_eq_some_iff.mp hf).1
      rw [List.getElem?_set_self hk] at hw
      cases hw
      have : g = f := by rw [hf] at hg; cases hg; rfl
      rw [this]; exact hv
    · rw [List.getElem?_set_ne e] at hw
      have := k3 j g hg
      unfold hs_fV at this
      rw [List.getD_eq_getElem?_getD, hw] at this
      exact this
theorem hs_sA_S {h : pm_H} (S : hs_Shape h) {a t n j : Nat} {x : Int32} (hs : hs_sh a = (t, n, [])) (ht : t = 0 ∨ t = 2) : hs_Shape (hs_sA h a t n j x) := by
  refine hs_keep S ?_
  rw [hs]
  refine ⟨rfl, rfl, ?_⟩
  rcases ht with rfl | rfl
  · exact ⟨_, rfl⟩
  · exact ⟨_, rfl⟩
theorem hs_sL_S {h : pm_H} (S : hs_Shape h) {a n j : Nat} {x : Int64} (hs : hs_sh a = (1, n, [])) : hs_Shape (hs_sL h a n j x) := by
  refine hs_keep S ?_
  rw [hs]
  exact ⟨rfl, rfl, ⟨_, rfl⟩⟩
/-- another cell -/
theorem hs_vs_ne {h : pm_H} {a b : Nat} {c : pm_C} (hb : b ≠ a) : hs_vs (pm_hset h a c) b = hs_vs h b := by
  unfold hs_vs
  rw [hs_oth hb]
theorem hs_fV_ne {h : pm_H} {a b k : Nat} {c : pm_C} (hb : b ≠ a) : hs_fV (pm_hset h a c) b k = hs_fV h b k := by
  unfold hs_fV
  rw [hs_vs_ne hb]
theorem hs_fI_ne {h : pm_H} {a b k : Nat} {c : pm_C} (hb : b ≠ a) : hs_fI (pm_hset h a c) b k = hs_fI h b k := by
  unfold hs_fI
  rw [hs_fV_ne hb]
theorem hs_fL_ne {h : pm_H} {a b k : Nat} {c : pm_C} (hb : b ≠ a) : hs_fL (pm_hset h a c) b k = hs_fL h b k := by
  unfold hs_fL
  rw [hs_fV_ne hb]
theorem hs_aI_ne {h : pm_H} {a b : Nat} {c : pm_C} (hb : b ≠ a) : hs_aI (pm_hset h a c) b = hs_aI h b := by
  unfold hs_aI
  rw [hs_oth hb]
theorem hs_aL_ne {h : pm_H} {a b : Nat} {c : pm_C} (hb : b ≠ a) : hs_aL (pm_hset h a c) b = hs_aL h b := by
  unfold hs_aL
  rw [hs_oth hb]
/-- the same cell -/
theorem hs_vs_sF {h : pm_H} {a ci k : Nat} {v : Value} : hs_vs (hs_sF h a ci k v) a = (hs_vs h a).set k v := by
  unfold hs_sF
  rw [hs_vs, hs_same]
theorem hs_fV_sF {h : pm_H} (S : hs_Shape h) {a ci k : Nat} {fs : List (Nat × Nat)} {v : Value} (hs : hs_sh a = (10 + ci, 0, fs)) (ha : a < 129) (hk : k < fs.length) : hs_fV (hs_sF h a ci k v) a k = v := by
  unfold hs_fV
  rw [hs_vs_sF, List.getD_eq_getElem?_getD, List.getElem?_set_self (by rw [(hs_obj S hs ha).2.1]; exact hk)]
  rfl
theorem hs_fV_sF_ne {h : pm_H} {a ci k j : Nat} {v : Value} (e : k ≠ j) : hs_fV (hs_sF h a ci k v) a j = hs_fV h a j := by
  unfold hs_fV
  rw [hs_vs_sF, List.getD_eq_getElem?_getD, List.getD_eq_getElem?_getD, List.getElem?_set_ne e]
theorem hs_aI_sA {h : pm_H} {a t n j : Nat} {x : Int32} : hs_aI (hs_sA h a t n j x) a = upd (hs_aI h a) j x := by
  unfold hs_sA
  rw [hs_aI, hs_same]
theorem hs_aL_sL {h : pm_H} {a n j : Nat} {x : Int64} : hs_aL (hs_sL h a n j x) a = vp_updL (hs_aL h a) j x := by
  unfold hs_sL
  rw [hs_aL, hs_same]
theorem hs_in {j : Int32} {n : Nat} (h0 : 0 ≤ j.toInt) (h1 : j.toInt < n) : pm_in j n = true := by
  unfold pm_in
  have e : ¬ j < 0 := by
    rw [Int32.lt_iff_toInt_lt]
    have : (0 : Int32).toInt = 0 := by decide
    omega
  rw [decide_eq_false e]
  have : j.toNatClampNeg < n := by
    show j.toInt.toNat < n
    omega
  rw [decide_eq_true this]
  rfl
/-- an int field is read -/
theorem hq_gI {X : pm_X} {d o : Nat} {ini : Bool} {ret : Option FieldType} {code : List pm_I} {pc : Nat} {ls : pm_Ls} {h : pm_H} {Q : pm_H → Option Value → Prop} {ix len ci b x : Nat} {v : Value} {r : List Value} {fs : List (Nat × Nat)} (S : hs_Shape h)
    (hf : pm_find code pc = some (.getfield ix, len, ci, b, v)) (hs : hs_sh x = (10 + ci, 0, fs)) (hx : x < 129) (hb : b < pm_cn ci) (ht : fs[b]? = some (0, 0)) (k : hq_W X d o ini ret code (pc + 3, ls, .int (hs_fI h x b) :: r, h) Q) : hq_W X d o ini ret code (pc, ls, .ref x :: r, h) Q := by
  obtain ⟨k1, k2, k3⟩ := hs_obj S hs hx
  obtain ⟨y, hy⟩ := k3 b _ ht
  have hl : b < (hs_vs h x).length := by rw [k2]; exact (List.getElem?_eq_some_iff.mp ht).1
  have e : hs_fI h x b = y := by unfold hs_fI; rw [hy]
  rw [e] at k
  refine hq_getf hf k1 hb ?_ k
  unfold hs_fV at hy
  rw [List.getD_eq_getElem?_getD, List.getElem?_eq_getElem hl] at hy
  rw [List.getElem?_eq_getElem hl]
  exact congrArg some hy
/-- a final reference is read -/
theorem hq_gR {X : pm_X} {d o : Nat} {ini : Bool} {ret : Option FieldType} {code : List pm_I} {pc : Nat} {ls : pm_Ls} {h : pm_H} {Q : pm_H → Option Value → Prop} {ix len ci b x y : Nat} {v : Value} {r : List Value} {fs : List (Nat × Nat)} (S : hs_Shape h)
    (hf : pm_find code pc = some (.getfield ix, len, ci, b, v)) (hs : hs_sh x = (10 + ci, 0, fs)) (hx : x < 129) (hb : b < pm_cn ci) (ht : fs[b]? = some (3, y)) (k : hq_W X d o ini ret code (pc + 3, ls, .ref y :: r, h) Q) : hq_W X d o ini ret code (pc, ls, .ref x :: r, h) Q := by
  obtain ⟨k1, k2, k3⟩ := hs_obj S hs hx
  have hy : hs_fV h x b = .ref y := k3 b _ ht
  have hl : b < (hs_vs h x).length := by rw [k2]; exact (List.getElem?_eq_some_iff.mp ht).1
  refine hq_getf hf k1 hb ?_ k
  unfold hs_fV at hy
  rw [List.getD_eq_getElem?_getD, List.getElem?_eq_getElem hl] at hy
  rw [List.getElem?_eq_getElem hl]
  exact congrArg some hy
/-- a field is written -/
theorem hq_pF {X : pm_X} {d o : Nat} {ini : Bool} {ret : Option FieldType} {code : List pm_I} {pc : Nat} {ls : pm_Ls} {h : pm_H} {Q : pm_H → Option Value → Prop} {ix len ci b x : Nat} {v u : Value} {r : List Value} {fs : List (Nat × Nat)} {f : Nat × Nat} (S : hs_Shape h)
    (hf : pm_find code pc = some (.putfield ix, len, ci, b, v)) (hs : hs_sh x = (10 + ci, 0, fs)) (hx : x < 129) (hb : (decide (b < pm_cn ci) && decide (b < fs.length) && pm_fit (pm_ty ci b) u && (!pm_fin ci b || (ini && decide (pm_cnm ci = pm_own o)))) = true) (ht : fs[b]? = some f) (hu : hs_fd f u) (k : hs_Shape (hs_sF h x ci b u) → hq_W X d o ini ret code (pc + 3, ls, r, hs_sF h x ci b u) Q) : hq_W X d o ini ret code (pc, ls, u :: .ref x :: r, h) Q := by
  obtain ⟨k1, k2, k3⟩ := hs_obj S hs hx
  refine hq_putf hf k1 ?_ (k (hs_sF_S S hs hx ht hu))
  rw [k2]
  exact hb
/-- an int array is read, is written -/
theorem hq_aL {X : pm_X} {d o : Nat} {ini : Bool} {ret : Option FieldType} {code : List pm_I} {pc : Nat} {ls : pm_Ls} {h : pm_H} {Q : pm_H → Option Value → Prop} {len a b x n : Nat} {v : Value} {r : List Value} {j : Int32} (S : hs_Shape h)
    (hf : pm_find code pc = some (.iaload, len, a, b, v)) (hs : hs_sh x = (0, n, [])) (hx : x < 129) (h0 : 0 ≤ j.toInt) (h1 : j.toInt < n) (k : hq_W X d o ini ret code (pc + 1, ls, .int (hs_aI h x j.toNatClampNeg) :: r, h) Q) : hq_W X d o ini ret code (pc, ls, .int j :: .ref x :: r, h) Q :=
  hq_iald hf (hs_iarr S hs hx) (hs_in h0 h1) k
theorem hq_aS {X : pm_X} {d o : Nat} {ini : Bool} {ret : Option FieldType} {code : List pm_I} {pc : Nat} {ls : pm_Ls} {h : pm_H} {Q : pm_H → Option Value → Prop} {len a b x n : Nat} {v : Value} {r : List Value} {j y : Int32} (S : hs_Shape h)
    (hf : pm_find code pc = some (.iastore, len, a, b, v)) (hs : hs_sh x = (0, n, [])) (hx : x < 129) (h0 : 0 ≤ j.toInt) (h1 : j.toInt < n) (k : hs_Shape (hs_sA h x 0 n j.toNatClampNeg y) → hq_W X d o ini ret code (pc + 1, ls, r, hs_sA h x 0 n j.toNatClampNeg y) Q) : hq_W X d o ini ret code (pc, ls, .int y :: .int j :: .ref x :: r, h) Q :=
  hq_iast hf (hs_iarr S hs hx) (hs_in h0 h1) (k (hs_sA_S S hs (Or.inl rfl)))
end RUL
