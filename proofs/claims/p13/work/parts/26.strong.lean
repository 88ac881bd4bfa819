/-! STRONGER PREDICATES: what a method leaves as it is -/
section STG
/-- J with more, that no write which W allows touches -/
theorem ty_C.and2 {W : Nat → Nat → Prop} {J P : pm_H → Prop} (H : ty_C W J) (hF : ∀ h a ci k v, P h → W a k → a < 129 → 10 ≤ (hs_sh a).1 → P (hs_sF h a ci k v)) (hA : ∀ h a t n j x, P h → W a j → a < 129 → hs_sh a = (t, n, []) → t < 3 → P (hs_sA h a t n j x)) (hL : ∀ h a n j x, P h → W a j → a < 129 → hs_sh a = (1, n, []) → P (hs_sL h a n j x)) (hD : W 201 0 → ∀ h u v, P h → P (ty_ad h u v)) (hR : ∀ h t j w, P h → W (t + 10) j → ty_tr t → P (hs_sR h (t + 10) j w)) : ty_C W (fun h => J h ∧ P h) :=
  ⟨fun h j => H.1 h j.1, fun h a ci k u fs t j w a1 a2 a3 a4 a5 a6 => ⟨H.2.1 h a ci k u fs t j.1 w a1 a2 a3 a4 a5 a6, hF h a ci k _ j.2 w a1 (by rw [a2]; show 10 ≤ 10 + ci; omega)⟩, fun h a ci k u fs j w a1 a2 a3 a4 a5 => ⟨H.2.2.1 h a ci k u fs j.1 w a1 a2 a3 a4 a5, hF h a ci k _ j.2 w a1 (by rw [a2]; show 10 ≤ 10 + ci; omega)⟩, fun h a n i t x j w a1 a2 a3 a4 a5 a6 a7 => ⟨H.2.2.2.1 h a n i t x j.1 w a1 a2 a3 a4 a5 a6 a7, hA h a t n i x j.2 w a1 a2 (by omega)⟩, fun h a n i x j w a1 a2 a3 => ⟨H.2.2.2.2.1 h a n i x j.1 w a1 a2 a3, hL h a n i x j.2 w a1 a2⟩, fun w h j => H.2.2.2.2.2.1 w h j.1, fun w h j => H.2.2.2.2.2.2.1 w h j.1, fun w => ⟨fun h j => (H.2.2.2.2.2.2.2.1 w).1 h j.1, fun h u v j a1 a2 a3 a4 => ⟨(H.2.2.2.2.2.2.2.1 w).2 h u v j.1 a1 a2 a3 a4, hD w h u v j.2⟩⟩, fun h t j q p w a1 a2 a3 => ⟨H.2.2.2.2.2.2.2.2 h t j q p.1 w a1 a2 a3, hR h t j q p.2 w a1⟩⟩
/-- an int field that W doesn't allow -/
theorem ty_C.fld {W : Nat → Nat → Prop} {J : pm_H → Prop} (H : ty_C W J) (c q : Nat) (hc : c ≠ 62) (h0 : ¬ W c q) (h1 : 10 ≤ (hs_sh c).1) (v : Int) : ty_C W (fun h => J h ∧ (hs_fI h c q).toInt = v) := by
  refine H.and2 (fun h a ci k u p w _ hh => ?_) (fun h a t n j x p w _ e1 e2 => ?_) (fun h a n j x p w _ e1 => ?_) (fun w h u v' p => ?_) (fun h t j w p q a1 => ?_)
  · by_cases e : c = a
    · subst e
      have e3 : k ≠ q := fun e4 => h0 (e4 ▸ w)
      exact (congrArg Int32.toInt (ty_fI_sF e3)).trans p
    · exact (congrArg Int32.toInt (hs_fI_ne e)).trans p
  · have e : c ≠ a := fun e => by rw [e, e1] at h1; have : 10 ≤ t := h1; omega
    exact (congrArg Int32.toInt (hs_fI_ne e)).trans p
  · have e : c ≠ a := fun e => by rw [e, e1] at h1; have : 10 ≤ 1 := h1; omega
    exact (congrArg Int32.toInt (hs_fI_ne e)).trans p
  · exact (congrArg Int32.toInt ((hs_fI_ne hc).trans (hs_fI_ne hc))).trans p
  · have e : c ≠ t + 10 := fun e => by rw [e, ty_trs10 a1] at h1; have : 10 ≤ 3 := h1; omega
    exact (congrArg Int32.toInt (hs_fI_ne e)).trans p
/-- a whole int array that W doesn't allow -/
theorem ty_C.arr {W : Nat → Nat → Prop} {J : pm_H → Prop} (H : ty_C W J) (c : Nat) (hc : c ≠ 62) (h0 : ∀ k, ¬ W c k) (R : Nat → Int32) : ty_C W (fun h => J h ∧ hs_aI h c = R) := by
  have q : ∀ a k, W a k → c ≠ a := fun a k w e => h0 k (e ▸ w)
  exact H.and2 (fun h a ci k u p w _ _ => (hs_aI_ne (q a k w)).trans p) (fun h a t n j x p w _ _ _ => (hs_aI_ne (q a j w)).trans p) (fun h a n j x p w _ _ => (hs_aI_ne (q a j w)).trans p) (fun w h u v' p => ((hs_aI_ne hc).trans (hs_aI_ne hc)).trans p) (fun h t j w p w2 a1 => (hs_aI_ne (q _ _ w2)).trans p)
/-- what the sums of the model write -/
def ty_Ws (a k : Nat) : Prop := a = 200 ∨ (a = 97 ∧ (k = 38 ∨ k = 39)) ∨ a = 117
def ty_Wv (a k : Nat) : Prop := a = 200 ∨ (a = 97 ∧ (k = 38 ∨ k = 39 ∨ k = 40)) ∨ a = 117
def ty_Wb (a k : Nat) : Prop := a = 97 ∧ k = 38
theorem ty_C.law {W : Nat → Nat → Prop} {J : pm_H → Prop} (H : ty_C W J) (h0 : ¬ W 97 34) (h1 : ∀ k, ¬ W 99 k) (b : Int) (R : Nat → Int32) : ty_C W (fun h => (J h ∧ (hs_fI h 97 34).toInt = b) ∧ hs_aI h 99 = R) :=
  (H.fld 97 34 (by decide) h0 (by decide) b).arr 99 (by decide) h1 R
/-- an element that W doesn't allow -/
theorem ty_C.elt {W : Nat → Nat → Prop} {J : pm_H → Prop} (H : ty_C W J) (c q : Nat) (hc : c ≠ 62) (h0 : ¬ W c q) (h1 : (hs_sh c).1 = 0) (v : Int) : ty_C W (fun h => J h ∧ (hs_aI h c q).toInt = v) := by
  refine H.and2 (fun h a ci k u p w _ hh => ?_) (fun h a t n j x p w _ e1 e2 => ?_) (fun h a n j x p w _ e1 => ?_) (fun w h u v' p => ?_) (fun h t j w p q2 a1 => ?_)
  · have e : c ≠ a := fun e => by rw [← e, h1] at hh; omega
    exact (congrArg Int32.toInt (ty_aI_ne e)).trans p
  · by_cases e : c = a
    · subst e
      have e3 : q ≠ j := fun e4 => h0 (e4 ▸ w)
      exact (congrArg Int32.toInt (ty_aI_sA e3)).trans p
    · exact (congrArg Int32.toInt (ty_aI_ne e)).trans p
  · have e : c ≠ a := fun e => by rw [e, e1] at h1; cases h1
    exact (congrArg Int32.toInt (ty_aI_ne e)).trans p
  · exact (congrArg Int32.toInt ((ty_aI_ne hc).trans (ty_aI_ne hc))).trans p
  · have e : c ≠ t + 10 := fun e => by rw [e, ty_trs10 a1] at h1; cases h1
    exact (congrArg Int32.toInt (ty_aI_ne e)).trans p
theorem ty_calle {X : pm_X} {d o : Nat} {ini : Bool} {ret : Option FieldType} {code : List pm_I} {pc : Nat} {ls : pm_Ls} {h : pm_H} {Q : pm_H → Option Value → Prop} {W : Nat → Nat → Prop} {J : pm_H → Prop} {W' : Nat → Nat → Prop} {P : pm_H → Option Value → Prop} {st : List Value} {i : Instr} {len kind mid c j : Nat} {v : Value} {q : pm_M} (ik : Nat)
    (H : ty_C W J) (hJ : J h) (hf : pm_find code pc = some (i, len, kind, mid, v)) (hi : ∀ call, pm_step X call o ini ret pc ls st h i len kind mid v = pm_inv X call ik pc ls st h kind mid) (hk : (kind == 4 || kind == 5 || kind == 6) = false) (hm : pm_mtL[mid]? = some q) (hik : (bif kind == 0 || kind == 7 then ik == 0 else bif kind == 2 then ik == 2 else ik == 1) = true) (hp : hq_pre h st kind q.2.2.2.2.2.1 q.1.cls = true) (hW : ∀ a k, W' a k → W a k) (h5 : W' 99 5 → W 202 0 → W' 202 0) (ct : ty_M X W' d mid (st.take q.2.2.2.2.2.1).reverse h P) (hc : c ≠ 62 ∧ (hs_sh c).1 = 0) (h0 : ¬ W' c j)
    (k : ∀ h1 v, J h1 → (hs_aI h1 c j).toInt = (hs_aI h c j).toInt → P h1 v → hq_W X d o ini ret code (pc + 3, ls, (match v with | some v => v :: st.drop q.2.2.2.2.2.1 | none => st.drop q.2.2.2.2.2.1), h1) Q) : hq_W X d o ini ret code (pc, ls, st, h) Q := by
  refine hq_inv ik hf hi hk hm hik hp ((ct (fun h' => (J h' ∧ h'.1 = h.1 ∧ h'.2.1 = h.2.1 ∧ ∀ a, 129 ≤ a → h'.2.2 a = h.2.2 a) ∧ (hs_aI h' c j).toInt = (hs_aI h c j).toInt) (((H.mono hW h5).sz _ _ _).elt c j hc.1 h0 hc.2 _) ⟨⟨hJ, rfl, rfl, fun _ _ => rfl⟩, rfl⟩).mono (Nat.le_refl _) (fun h' v p => ?_))
  obtain ⟨⟨⟨j1, e1, e2, e3⟩, e4⟩, p⟩ := p
  exact ⟨by omega, by omega, k h' v j1 e4 p⟩
theorem ty_callg {X : pm_X} {d o : Nat} {ini : Bool} {ret : Option FieldType} {code : List pm_I} {pc : Nat} {ls : pm_Ls} {h : pm_H} {Q : pm_H → Option Value → Prop} {W : Nat → Nat → Prop} {J : pm_H → Prop} {W' : Nat → Nat → Prop} {P : pm_H → Option Value → Prop} {st : List Value} {i : Instr} {len kind mid c j : Nat} {v : Value} {q : pm_M} (ik : Nat)
    (H : ty_C W J) (hJ : J h) (hf : pm_find code pc = some (i, len, kind, mid, v)) (hi : ∀ call, pm_step X call o ini ret pc ls st h i len kind mid v = pm_inv X call ik pc ls st h kind mid) (hk : (kind == 4 || kind == 5 || kind == 6) = false) (hm : pm_mtL[mid]? = some q) (hik : (bif kind == 0 || kind == 7 then ik == 0 else bif kind == 2 then ik == 2 else ik == 1) = true) (hp : hq_pre h st kind q.2.2.2.2.2.1 q.1.cls = true) (hW : ∀ a k, W' a k → W a k) (h5 : W' 99 5 → W 202 0 → W' 202 0) (ct : ty_M X W' d mid (st.take q.2.2.2.2.2.1).reverse h P) (hc : c ≠ 62 ∧ 10 ≤ (hs_sh c).1) (h0 : ¬ W' c j)
    (k : ∀ h1 v, J h1 → (hs_fI h1 c j).toInt = (hs_fI h c j).toInt → P h1 v → hq_W X d o ini ret code (pc + 3, ls, (match v with | some v => v :: st.drop q.2.2.2.2.2.1 | none => st.drop q.2.2.2.2.2.1), h1) Q) : hq_W X d o ini ret code (pc, ls, st, h) Q := by
  refine hq_inv ik hf hi hk hm hik hp ((ct (fun h' => (J h' ∧ h'.1 = h.1 ∧ h'.2.1 = h.2.1 ∧ ∀ a, 129 ≤ a → h'.2.2 a = h.2.2 a) ∧ (hs_fI h' c j).toInt = (hs_fI h c j).toInt) (((H.mono hW h5).sz _ _ _).fld c j hc.1 h0 hc.2 _) ⟨⟨hJ, rfl, rfl, fun _ _ => rfl⟩, rfl⟩).mono (Nat.le_refl _) (fun h' v p => ?_))
  obtain ⟨⟨⟨j1, e1, e2, e3⟩, e4⟩, p⟩ := p
  exact ⟨by omega, by omega, k h' v j1 e4 p⟩
theorem ty_glb {X : pm_X} {d o : Nat} {ini : Bool} {ret : Option FieldType} {code : List pm_I} {pc : Nat} {ls : pm_Ls} {h : pm_H} {Q : pm_H → Option Value → Prop} {r : List Value} {c : Int64} {lo hi : Int} (hc : lo ≤ c.toInt ∧ c.toInt ≤ hi) (k : ∀ z : Int64, lo ≤ z.toInt → z.toInt ≤ hi → hq_W X d o ini ret code (pc, ls, .long z :: r, h) Q) : hq_W X d o ini ret code (pc, ls, .long c :: r, h) Q := k c hc.1 hc.2
theorem nm_lremb {x y : Int64} (hy : 0 < y.toInt) (hx : 0 ≤ x.toInt) : 0 ≤ (x - x / y * y).toInt ∧ (x - x / y * y).toInt ≤ y.toInt - 1 := by
  rw [nm_lrem rfl hy hx]
  have a := Int.emod_nonneg x.toInt (Int.ne_of_gt hy)
  have b := Int.emod_lt_of_pos x.toInt hy
  exact ⟨a, by omega⟩
theorem ty_sv {z : Int} {n : Nat} (a : (ty_rb n).1 ≤ z) (b : z ≤ (ty_rb n).2) (c : n = 5 → z ≤ 999) : (ty_sb n).1 ≤ z ∧ z ≤ (ty_sb n).2 := by
  by_cases e : n = 5
  · have q := c e
    subst e
    exact ⟨a, q⟩
  · rw [ty_rs e]
    exact ⟨a, b⟩
/-- keeping, putting back, remembering -/
def ty_Wq (a _k : Nat) : Prop := a = 202 ∨ a = 102
def ty_Wp (a k : Nat) : Prop := a = 202 ∨ (a = 99 ∧ 5 ≤ k ∧ k < 34)
def ty_Wm (a k : Nat) : Prop := a = 202 ∨ a = 102 ∨ a = 103 ∨ (a = 97 ∧ k = 8)
end STG
